section
-- ===== PART A: goes FIRST, ahead of the names: the tables' words, and 'selects' of the private methods out of them =====
/-- a private method of a class that the tables say can be made, by its rows of tables_1 -/
def lw_okq (q : MethodName × Nat) : Prop := (q.1.cls ≠ "java/lang/invoke/MethodHandle" ∧ q.1.cls ≠ "java/lang/invoke/VarHandle") ∧ Cond.instantiable q.1.cls q.2 ∈ tables_1 ∧ Cond.privateMethod q.1 ∈ tables_1 ∧ Cond.instanceMethod q.1 ∈ tables_1
theorem lw_p0 : lw_okq (⟨"RainRecorder$History", "dropOldest", "()V"⟩, 2) := ⟨⟨by decide +kernel, by decide +kernel⟩, List.mem_of_getElem? (i := 211) (by decide +kernel), List.mem_of_getElem? (i := 313) (by decide +kernel), List.mem_of_getElem? (i := 314) (by decide +kernel)⟩
theorem lw_p1 : lw_okq (⟨"RainRecorder$Showers", "move", "(II)V"⟩, 4) := ⟨⟨by decide +kernel, by decide +kernel⟩, List.mem_of_getElem? (i := 30) (by decide +kernel), List.mem_of_getElem? (i := 352) (by decide +kernel), List.mem_of_getElem? (i := 353) (by decide +kernel)⟩
theorem lw_p2 : lw_okq (⟨"RainRecorder", "errorOfTicks", "(I)I"⟩, 6) := ⟨⟨by decide +kernel, by decide +kernel⟩, List.mem_of_getElem? (i := 16) (by decide +kernel), List.mem_of_getElem? (i := 376) (by decide +kernel), List.mem_of_getElem? (i := 377) (by decide +kernel)⟩
theorem lw_p3 : lw_okq (⟨"RainRecorder$State", "passTick", "()Z"⟩, 9) := ⟨⟨by decide +kernel, by decide +kernel⟩, List.mem_of_getElem? (i := 24) (by decide +kernel), List.mem_of_getElem? (i := 384) (by decide +kernel), List.mem_of_getElem? (i := 385) (by decide +kernel)⟩
theorem lw_p4 : lw_okq (⟨"RainRecorder$Bucket", "tip", "(II)I"⟩, 6) := ⟨⟨by decide +kernel, by decide +kernel⟩, List.mem_of_getElem? (i := 69) (by decide +kernel), List.mem_of_getElem? (i := 403) (by decide +kernel), List.mem_of_getElem? (i := 404) (by decide +kernel)⟩
theorem lw_p5 : lw_okq (⟨"RainRecorder$Marks", "removeOldest", "()V"⟩, 4) := ⟨⟨by decide +kernel, by decide +kernel⟩, List.mem_of_getElem? (i := 137) (by decide +kernel), List.mem_of_getElem? (i := 419) (by decide +kernel), List.mem_of_getElem? (i := 420) (by decide +kernel)⟩
theorem lw_p6 : lw_okq (⟨"RainRecorder$Marks", "beginsStorm", "(II)Z"⟩, 4) := ⟨⟨by decide +kernel, by decide +kernel⟩, List.mem_of_getElem? (i := 137) (by decide +kernel), List.mem_of_getElem? (i := 460) (by decide +kernel), List.mem_of_getElem? (i := 461) (by decide +kernel)⟩
theorem lw_p7 : lw_okq (⟨"RainRecorder", "amountOf", "(II)I"⟩, 6) := ⟨⟨by decide +kernel, by decide +kernel⟩, List.mem_of_getElem? (i := 16) (by decide +kernel), List.mem_of_getElem? (i := 545) (by decide +kernel), List.mem_of_getElem? (i := 546) (by decide +kernel)⟩
theorem lw_p8 : lw_okq (⟨"RainRecorder", "lossOf", "(II)I"⟩, 6) := ⟨⟨by decide +kernel, by decide +kernel⟩, List.mem_of_getElem? (i := 16) (by decide +kernel), List.mem_of_getElem? (i := 549) (by decide +kernel), List.mem_of_getElem? (i := 550) (by decide +kernel)⟩
def lw_privs_1 : List (MethodName × Nat) := [(⟨"RainRecorder$History", "dropOldest", "()V"⟩, 2), (⟨"RainRecorder$Showers", "move", "(II)V"⟩, 4), (⟨"RainRecorder", "errorOfTicks", "(I)I"⟩, 6), (⟨"RainRecorder$State", "passTick", "()Z"⟩, 9), (⟨"RainRecorder$Bucket", "tip", "(II)I"⟩, 6), (⟨"RainRecorder$Marks", "removeOldest", "()V"⟩, 4), (⟨"RainRecorder$Marks", "beginsStorm", "(II)Z"⟩, 4), (⟨"RainRecorder", "amountOf", "(II)I"⟩, 6), (⟨"RainRecorder", "lossOf", "(II)I"⟩, 6)]
theorem lw_r1 : ∀ q ∈ lw_privs_1, lw_okq q := List.forall_mem_cons.mpr ⟨lw_p0, List.forall_mem_cons.mpr ⟨lw_p1, List.forall_mem_cons.mpr ⟨lw_p2, List.forall_mem_cons.mpr ⟨lw_p3, List.forall_mem_cons.mpr ⟨lw_p4, List.forall_mem_cons.mpr ⟨lw_p5, List.forall_mem_cons.mpr ⟨lw_p6, List.forall_mem_cons.mpr ⟨lw_p7, List.forall_mem_cons.mpr ⟨lw_p8, fun _ h => absurd h List.not_mem_nil⟩⟩⟩⟩⟩⟩⟩⟩⟩
def lw_privs : List (MethodName × Nat) := lw_privs_1
def lw_tbl : List Cond := k2_sels lw_privs ++ tables_1
theorem lw_privs_ok : ∀ q ∈ lw_privs, lw_okq q := lw_r1
end
section
def RX0 : String := "RainRecorder$Bucket"
def TX0 : u_T := fun k => match k with
  | 0 => ("RainRecorder$Bucket", "content", "I", false)
  | 1 => ("RainRecorder$Bucket", "tipLeft", "I", false)
  | 2 => ("RainRecorder$Bucket", "tipped", "I", false)
  | 3 => ("RainRecorder$Bucket", "over", "I", false)
  | 4 => ("RainRecorder$Bucket", "lost", "I", false)
  | _ => ("RainRecorder$Bucket", "dried", "I", false)
def tyX0 : Nat → FieldType := fun k => match k with
  | 0 => .int
  | 1 => .int
  | 2 => .int
  | 3 => .int
  | 4 => .int
  | _ => .int
abbrev wsX00 : List Cond := u_ws RX0 TX0 6
theorem nmX0 : ∀ a, a < 6 → ∀ b, b < 6 → a ≠ b → (TX0 a).2.1 ≠ (TX0 b).2.1 := by decide +kernel
theorem tyX0_ok : ∀ k, k < 6 → parseFieldDescriptor (TX0 k).2.2.1 = some (tyX0 k) := by decide +kernel
abbrev cX0_init : ByteArray := prog_2_method_1_code
def yX0_init : MethodName := ⟨RX0, "<init>", "()V"⟩
abbrev cX0_copyFrom : ByteArray := prog_2_method_2_code
def yX0_copyFrom : MethodName := ⟨RX0, "copyFrom", "(LRainRecorder$Bucket;)V"⟩
abbrev cX0_passTick : ByteArray := prog_2_method_3_code
def yX0_passTick : MethodName := ⟨RX0, "passTick", "(IZIII)I"⟩
abbrev cX0_tip : ByteArray := prog_2_method_4_code
def yX0_tip : MethodName := ⟨RX0, "tip", "(II)I"⟩
def RX1 : String := "RainRecorder$Clock"
def TX1 : u_T := fun k => match k with
  | 0 => ("RainRecorder$Clock", "reserve", "I", false)
  | _ => ("RainRecorder$Clock", "counted", "I", false)
def tyX1 : Nat → FieldType := fun k => match k with
  | 0 => .int
  | _ => .int
abbrev wsX10 : List Cond := u_ws RX1 TX1 2
theorem nmX1 : ∀ a, a < 2 → ∀ b, b < 2 → a ≠ b → (TX1 a).2.1 ≠ (TX1 b).2.1 := by decide +kernel
theorem tyX1_ok : ∀ k, k < 2 → parseFieldDescriptor (TX1 k).2.2.1 = some (tyX1 k) := by decide +kernel
abbrev cX1_init : ByteArray := prog_3_method_1_code
def yX1_init : MethodName := ⟨RX1, "<init>", "()V"⟩
abbrev cX1_copyFrom : ByteArray := prog_3_method_2_code
def yX1_copyFrom : MethodName := ⟨RX1, "copyFrom", "(LRainRecorder$Clock;)V"⟩
abbrev cX1_passTick : ByteArray := prog_3_method_3_code
def yX1_passTick : MethodName := ⟨RX1, "passTick", "()V"⟩
def RX2 : String := "RainRecorder$Film"
def TX2 : u_T := fun k => match k with
  | 0 => ("RainRecorder$Film", "content", "I", false)
  | _ => ("RainRecorder$Film", "dried", "I", false)
def tyX2 : Nat → FieldType := fun k => match k with
  | 0 => .int
  | _ => .int
abbrev wsX20 : List Cond := u_ws RX2 TX2 2
theorem nmX2 : ∀ a, a < 2 → ∀ b, b < 2 → a ≠ b → (TX2 a).2.1 ≠ (TX2 b).2.1 := by decide +kernel
theorem tyX2_ok : ∀ k, k < 2 → parseFieldDescriptor (TX2 k).2.2.1 = some (tyX2 k) := by decide +kernel
abbrev cX2_init : ByteArray := prog_4_method_1_code
def yX2_init : MethodName := ⟨RX2, "<init>", "()V"⟩
abbrev cX2_copyFrom : ByteArray := prog_4_method_2_code
def yX2_copyFrom : MethodName := ⟨RX2, "copyFrom", "(LRainRecorder$Film;)V"⟩
abbrev cX2_passTick : ByteArray := prog_4_method_3_code
def yX2_passTick : MethodName := ⟨RX2, "passTick", "(III)I"⟩
def RX3 : String := "RainRecorder$Gears"
def TX3 : u_T := fun k => match k with
  | 0 => ("RainRecorder$Gears", "firsts", "[I", true)
  | 1 => ("RainRecorder$Gears", "seconds", "[I", true)
  | _ => ("RainRecorder$Gears", "size", "I", false)
def tyX3 : Nat → FieldType := fun k => match k with
  | 0 => .array .int
  | 1 => .array .int
  | _ => .int
abbrev wsX30 : List Cond := u_ws RX3 TX3 3
theorem nmX3 : ∀ a, a < 3 → ∀ b, b < 3 → a ≠ b → (TX3 a).2.1 ≠ (TX3 b).2.1 := by decide +kernel
theorem tyX3_ok : ∀ k, k < 3 → parseFieldDescriptor (TX3 k).2.2.1 = some (tyX3 k) := by decide +kernel
abbrev cX3_init : ByteArray := prog_5_method_1_code
def yX3_init : MethodName := ⟨RX3, "<init>", "()V"⟩
abbrev cX3_copyFrom : ByteArray := prog_5_method_2_code
def yX3_copyFrom : MethodName := ⟨RX3, "copyFrom", "(LRainRecorder$Gears;)V"⟩
abbrev cX3_placeOf : ByteArray := prog_5_method_6_code
def yX3_placeOf : MethodName := ⟨RX3, "placeOf", "(II)I"⟩
def RX4 : String := "RainRecorder$History"
def TX4 : u_T := fun k => match k with
  | 0 => ("RainRecorder$History", "states", "[LRainRecorder$State;", true)
  | _ => ("RainRecorder$History", "size", "I", false)
def tyX4 : Nat → FieldType := fun k => match k with
  | 0 => .array (.object "RainRecorder$State")
  | _ => .int
abbrev wsX40 : List Cond := u_ws RX4 TX4 2
theorem nmX4 : ∀ a, a < 2 → ∀ b, b < 2 → a ≠ b → (TX4 a).2.1 ≠ (TX4 b).2.1 := by decide +kernel
theorem tyX4_ok : ∀ k, k < 2 → parseFieldDescriptor (TX4 k).2.2.1 = some (tyX4 k) := by decide +kernel
abbrev cX4_init : ByteArray := prog_6_method_1_code
def yX4_init : MethodName := ⟨RX4, "<init>", "()V"⟩
abbrev cX4_keep : ByteArray := prog_6_method_2_code
def yX4_keep : MethodName := ⟨RX4, "keep", "(LRainRecorder$State;)V"⟩
abbrev cX4_dropOldest : ByteArray := prog_6_method_3_code
def yX4_dropOldest : MethodName := ⟨RX4, "dropOldest", "()V"⟩
abbrev cX4_restoreInto : ByteArray := prog_6_method_4_code
def yX4_restoreInto : MethodName := ⟨RX4, "restoreInto", "(LRainRecorder$State;)V"⟩
def RX5 : String := "RainRecorder$Marks"
def TX5 : u_T := fun k => match k with
  | 0 => ("RainRecorder$Marks", "ticks", "[I", true)
  | 1 => ("RainRecorder$Marks", "places", "[I", true)
  | 2 => ("RainRecorder$Marks", "overs", "[I", true)
  | _ => ("RainRecorder$Marks", "size", "I", false)
def tyX5 : Nat → FieldType := fun k => match k with
  | 0 => .array .int
  | 1 => .array .int
  | 2 => .array .int
  | _ => .int
abbrev wsX50 : List Cond := u_ws RX5 TX5 4
theorem nmX5 : ∀ a, a < 4 → ∀ b, b < 4 → a ≠ b → (TX5 a).2.1 ≠ (TX5 b).2.1 := by decide +kernel
theorem tyX5_ok : ∀ k, k < 4 → parseFieldDescriptor (TX5 k).2.2.1 = some (tyX5 k) := by decide +kernel
abbrev cX5_init : ByteArray := prog_7_method_1_code
def yX5_init : MethodName := ⟨RX5, "<init>", "()V"⟩
abbrev cX5_copyFrom : ByteArray := prog_7_method_2_code
def yX5_copyFrom : MethodName := ⟨RX5, "copyFrom", "(LRainRecorder$Marks;)V"⟩
abbrev cX5_has : ByteArray := prog_7_method_3_code
def yX5_has : MethodName := ⟨RX5, "has", "(I)Z"⟩
abbrev cX5_append : ByteArray := prog_7_method_4_code
def yX5_append : MethodName := ⟨RX5, "append", "(III)V"⟩
abbrev cX5_removeOldest : ByteArray := prog_7_method_5_code
def yX5_removeOldest : MethodName := ⟨RX5, "removeOldest", "()V"⟩
abbrev cX5_ticksBetween : ByteArray := prog_7_method_6_code
def yX5_ticksBetween : MethodName := ⟨RX5, "ticksBetween", "(II)I"⟩
abbrev cX5_widestGap : ByteArray := prog_7_method_7_code
def yX5_widestGap : MethodName := ⟨RX5, "widestGap", "()I"⟩
abbrev cX5_beginsStorm : ByteArray := prog_7_method_8_code
def yX5_beginsStorm : MethodName := ⟨RX5, "beginsStorm", "(II)Z"⟩
abbrev cX5_countStorms : ByteArray := prog_7_method_9_code
def yX5_countStorms : MethodName := ⟨RX5, "countStorms", "(I)I"⟩
abbrev cX5_firstOfStorm : ByteArray := prog_7_method_10_code
def yX5_firstOfStorm : MethodName := ⟨RX5, "firstOfStorm", "(II)I"⟩
abbrev cX5_endOfStorm : ByteArray := prog_7_method_11_code
def yX5_endOfStorm : MethodName := ⟨RX5, "endOfStorm", "(II)I"⟩
abbrev cX5_lossBetweenTips : ByteArray := prog_7_method_12_code
def yX5_lossBetweenTips : MethodName := ⟨RX5, "lossBetweenTips", "(III)I"⟩
abbrev cX5_peak : ByteArray := prog_7_method_13_code
def yX5_peak : MethodName := ⟨RX5, "peak", "(II)I"⟩
def RX6 : String := "RainRecorder$Outlook"
def TX6 : u_T := fun k => match k with
  | 0 => ("RainRecorder$Outlook", "left", "[I", true)
  | 1 => ("RainRecorder$Outlook", "dry", "[Z", true)
  | _ => ("RainRecorder$Outlook", "size", "I", false)
def tyX6 : Nat → FieldType := fun k => match k with
  | 0 => .array .int
  | 1 => .array .boolean
  | _ => .int
abbrev wsX60 : List Cond := u_ws RX6 TX6 3
theorem nmX6 : ∀ a, a < 3 → ∀ b, b < 3 → a ≠ b → (TX6 a).2.1 ≠ (TX6 b).2.1 := by decide +kernel
theorem tyX6_ok : ∀ k, k < 3 → parseFieldDescriptor (TX6 k).2.2.1 = some (tyX6 k) := by decide +kernel
abbrev cX6_init : ByteArray := prog_8_method_1_code
def yX6_init : MethodName := ⟨RX6, "<init>", "()V"⟩
abbrev cX6_lookAhead : ByteArray := prog_8_method_2_code
def yX6_lookAhead : MethodName := ⟨RX6, "lookAhead", "(LRainRecorder$State;I)V"⟩
abbrev cX6_losesAtMost : ByteArray := prog_8_method_3_code
def yX6_losesAtMost : MethodName := ⟨RX6, "losesAtMost", "(IILRainRecorder$State;)Z"⟩
def RX7 : String := "RainRecorder$Reading"
def TX7 : u_T := fun k => match k with
  | 0 => ("RainRecorder$Reading", "begins", "[I", true)
  | 1 => ("RainRecorder$Reading", "lengths", "[I", true)
  | 2 => ("RainRecorder$Reading", "rates", "[I", true)
  | 3 => ("RainRecorder$Reading", "size", "I", false)
  | 4 => ("RainRecorder$Reading", "position", "I", false)
  | 5 => ("RainRecorder$Reading", "reason", "I", false)
  | _ => ("RainRecorder$Reading", "next", "I", false)
def tyX7 : Nat → FieldType := fun k => match k with
  | 0 => .array .int
  | 1 => .array .int
  | 2 => .array .int
  | 3 => .int
  | 4 => .int
  | 5 => .int
  | _ => .int
abbrev wsX70 : List Cond := u_ws RX7 TX7 7
theorem nmX7 : ∀ a, a < 7 → ∀ b, b < 7 → a ≠ b → (TX7 a).2.1 ≠ (TX7 b).2.1 := by decide +kernel
theorem tyX7_ok : ∀ k, k < 7 → parseFieldDescriptor (TX7 k).2.2.1 = some (tyX7 k) := by decide +kernel
abbrev cX7_init : ByteArray := prog_9_method_1_code
def yX7_init : MethodName := ⟨RX7, "<init>", "()V"⟩
def RX8 : String := "RainRecorder$Showers"
def TX8 : u_T := fun k => match k with
  | 0 => ("RainRecorder$Showers", "begins", "[I", true)
  | 1 => ("RainRecorder$Showers", "lengths", "[I", true)
  | 2 => ("RainRecorder$Showers", "rates", "[I", true)
  | _ => ("RainRecorder$Showers", "size", "I", false)
def tyX8 : Nat → FieldType := fun k => match k with
  | 0 => .array .int
  | 1 => .array .int
  | 2 => .array .int
  | _ => .int
abbrev wsX80 : List Cond := u_ws RX8 TX8 4
theorem nmX8 : ∀ a, a < 4 → ∀ b, b < 4 → a ≠ b → (TX8 a).2.1 ≠ (TX8 b).2.1 := by decide +kernel
theorem tyX8_ok : ∀ k, k < 4 → parseFieldDescriptor (TX8 k).2.2.1 = some (tyX8 k) := by decide +kernel
abbrev cX8_init : ByteArray := prog_10_method_1_code
def yX8_init : MethodName := ⟨RX8, "<init>", "()V"⟩
abbrev cX8_copyFrom : ByteArray := prog_10_method_2_code
def yX8_copyFrom : MethodName := ⟨RX8, "copyFrom", "(LRainRecorder$Showers;)V"⟩
abbrev cX8_has : ByteArray := prog_10_method_3_code
def yX8_has : MethodName := ⟨RX8, "has", "(I)Z"⟩
abbrev cX8_insert : ByteArray := prog_10_method_4_code
def yX8_insert : MethodName := ⟨RX8, "insert", "(III)I"⟩
abbrev cX8_removeEnded : ByteArray := prog_10_method_6_code
def yX8_removeEnded : MethodName := ⟨RX8, "removeEnded", "(I)V"⟩
abbrev cX8_move : ByteArray := prog_10_method_7_code
def yX8_move : MethodName := ⟨RX8, "move", "(II)V"⟩
abbrev cX8_rainIn : ByteArray := prog_10_method_8_code
def yX8_rainIn : MethodName := ⟨RX8, "rainIn", "(I)I"⟩
abbrev cX8_ticksToCome : ByteArray := prog_10_method_9_code
def yX8_ticksToCome : MethodName := ⟨RX8, "ticksToCome", "(II)I"⟩
def RX9 : String := "RainRecorder$State"
def TX9 : u_T := fun k => match k with
  | 0 => ("RainRecorder$State", "settings", "[I", true)
  | 1 => ("RainRecorder$State", "showers", "LRainRecorder$Showers;", true)
  | 2 => ("RainRecorder$State", "film", "LRainRecorder$Film;", true)
  | 3 => ("RainRecorder$State", "bucket", "LRainRecorder$Bucket;", true)
  | 4 => ("RainRecorder$State", "clock", "LRainRecorder$Clock;", true)
  | 5 => ("RainRecorder$State", "gears", "LRainRecorder$Gears;", true)
  | 6 => ("RainRecorder$State", "marks", "LRainRecorder$Marks;", true)
  | 7 => ("RainRecorder$State", "tick", "I", false)
  | _ => ("RainRecorder$State", "fell", "I", false)
def tyX9 : Nat → FieldType := fun k => match k with
  | 0 => .array .int
  | 1 => .object "RainRecorder$Showers"
  | 2 => .object "RainRecorder$Film"
  | 3 => .object "RainRecorder$Bucket"
  | 4 => .object "RainRecorder$Clock"
  | 5 => .object "RainRecorder$Gears"
  | 6 => .object "RainRecorder$Marks"
  | 7 => .int
  | _ => .int
abbrev wsX90 : List Cond := u_ws RX9 TX9 9
theorem nmX9 : ∀ a, a < 9 → ∀ b, b < 9 → a ≠ b → (TX9 a).2.1 ≠ (TX9 b).2.1 := by decide +kernel
theorem tyX9_ok : ∀ k, k < 9 → parseFieldDescriptor (TX9 k).2.2.1 = some (tyX9 k) := by decide +kernel
abbrev cX9_init : ByteArray := prog_11_method_1_code
def yX9_init : MethodName := ⟨RX9, "<init>", "()V"⟩
abbrev cX9_copyFrom : ByteArray := prog_11_method_2_code
def yX9_copyFrom : MethodName := ⟨RX9, "copyFrom", "(LRainRecorder$State;)V"⟩
abbrev cX9_passTicks : ByteArray := prog_11_method_3_code
def yX9_passTicks : MethodName := ⟨RX9, "passTicks", "(I)I"⟩
abbrev cX9_passTick : ByteArray := prog_11_method_4_code
def yX9_passTick : MethodName := ⟨RX9, "passTick", "()Z"⟩
abbrev cX9_drumPlace : ByteArray := prog_11_method_5_code
def yX9_drumPlace : MethodName := ⟨RX9, "drumPlace", "()I"⟩
abbrev cX9_accountOf : ByteArray := prog_11_method_6_code
def yX9_accountOf : MethodName := ⟨RX9, "accountOf", "(I)I"⟩
def RX10 : String := "RainRecorder$Text"
def TX10 : u_T := fun k => match k with
  | 0 => ("RainRecorder$Text", "characters", "[C", true)
  | _ => ("RainRecorder$Text", "length", "I", false)
def tyX10 : Nat → FieldType := fun k => match k with
  | 0 => .array .char
  | _ => .int
abbrev wsX100 : List Cond := u_ws RX10 TX10 2
theorem nmX10 : ∀ a, a < 2 → ∀ b, b < 2 → a ≠ b → (TX10 a).2.1 ≠ (TX10 b).2.1 := by decide +kernel
theorem tyX10_ok : ∀ k, k < 2 → parseFieldDescriptor (TX10 k).2.2.1 = some (tyX10 k) := by decide +kernel
abbrev cX10_init : ByteArray := prog_12_method_1_code
def yX10_init : MethodName := ⟨RX10, "<init>", "()V"⟩
def RX11 : String := "RainRecorder"
def TX11 : u_T := fun k => match k with
  | 0 => ("RainRecorder", "now", "LRainRecorder$State;", true)
  | 1 => ("RainRecorder", "trial", "LRainRecorder$State;", true)
  | 2 => ("RainRecorder", "history", "LRainRecorder$History;", true)
  | 3 => ("RainRecorder", "outlook", "LRainRecorder$Outlook;", true)
  | 4 => ("RainRecorder", "text", "LRainRecorder$Text;", true)
  | _ => ("RainRecorder", "reading", "LRainRecorder$Reading;", true)
def tyX11 : Nat → FieldType := fun k => match k with
  | 0 => .object "RainRecorder$State"
  | 1 => .object "RainRecorder$State"
  | 2 => .object "RainRecorder$History"
  | 3 => .object "RainRecorder$Outlook"
  | 4 => .object "RainRecorder$Text"
  | _ => .object "RainRecorder$Reading"
abbrev wsX110 : List Cond := u_ws RX11 TX11 6
theorem nmX11 : ∀ a, a < 6 → ∀ b, b < 6 → a ≠ b → (TX11 a).2.1 ≠ (TX11 b).2.1 := by decide +kernel
theorem tyX11_ok : ∀ k, k < 6 → parseFieldDescriptor (TX11 k).2.2.1 = some (tyX11 k) := by decide +kernel
abbrev cX11_init : ByteArray := prog_1_method_1_code
def yX11_init : MethodName := ⟨RX11, "<init>", "()V"⟩
abbrev cX11_addShower : ByteArray := prog_1_method_2_code
def yX11_addShower : MethodName := ⟨RX11, "addShower", "(III)I"⟩
abbrev cX11_shower : ByteArray := prog_1_method_4_code
def yX11_shower : MethodName := ⟨RX11, "shower", "(II)I"⟩
abbrev cX11_run : ByteArray := prog_1_method_5_code
def yX11_run : MethodName := ⟨RX11, "run", "(I)I"⟩
abbrev cX11_undo : ByteArray := prog_1_method_6_code
def yX11_undo : MethodName := ⟨RX11, "undo", "()I"⟩
abbrev cX11_set : ByteArray := prog_1_method_7_code
def yX11_set : MethodName := ⟨RX11, "set", "(II)I"⟩
abbrev cX11_wind : ByteArray := prog_1_method_8_code
def yX11_wind : MethodName := ⟨RX11, "wind", "()I"⟩
abbrev cX11_count : ByteArray := prog_1_method_12_code
def yX11_count : MethodName := ⟨RX11, "count", "(I)I"⟩
abbrev cX11_account : ByteArray := prog_1_method_13_code
def yX11_account : MethodName := ⟨RX11, "account", "(I)I"⟩
abbrev cX11_mark : ByteArray := prog_1_method_14_code
def yX11_mark : MethodName := ⟨RX11, "mark", "(II)I"⟩
abbrev cX11_storm : ByteArray := prog_1_method_15_code
def yX11_storm : MethodName := ⟨RX11, "storm", "(II)I"⟩
abbrev cX11_greatestStorm : ByteArray := prog_1_method_16_code
def yX11_greatestStorm : MethodName := ⟨RX11, "greatestStorm", "()I"⟩
abbrev cX11_gapForOne : ByteArray := prog_1_method_17_code
def yX11_gapForOne : MethodName := ⟨RX11, "gapForOne", "()I"⟩
abbrev cX11_ifRun : ByteArray := prog_1_method_18_code
def yX11_ifRun : MethodName := ⟨RX11, "ifRun", "(II)I"⟩
abbrev cX11_capacityFor : ByteArray := prog_1_method_19_code
def yX11_capacityFor : MethodName := ⟨RX11, "capacityFor", "(II)I"⟩
abbrev cX11_untilStop : ByteArray := prog_1_method_20_code
def yX11_untilStop : MethodName := ⟨RX11, "untilStop", "()I"⟩
abbrev cX11_errorOfTicks : ByteArray := prog_1_method_26_code
def yX11_errorOfTicks : MethodName := ⟨RX11, "errorOfTicks", "(I)I"⟩
abbrev cX11_amountOf : ByteArray := prog_1_method_27_code
def yX11_amountOf : MethodName := ⟨RX11, "amountOf", "(II)I"⟩
abbrev cX11_lossOf : ByteArray := prog_1_method_28_code
def yX11_lossOf : MethodName := ⟨RX11, "lossOf", "(II)I"⟩
abbrev cX11_isWithin : ByteArray := prog_1_method_29_code
def yX11_isWithin : MethodName := ⟨RX11, "isWithin", "(III)Z"⟩
abbrev cX11_quotient : ByteArray := prog_1_method_30_code
def yX11_quotient : MethodName := ⟨RX11, "quotient", "(II)I"⟩
abbrev cX11_copyRow : ByteArray := prog_1_method_31_code
def yX11_copyRow : MethodName := ⟨RX11, "copyRow", "([I[I)V"⟩
def RX12 : String := "RainRecorderModel"
def TX12 : u_T := fun k => match k with
  | _ => ("", "", "", false)
def tyX12 : Nat → FieldType := fun k => match k with
  | _ => .int
abbrev wsX120 : List Cond := u_ws RX12 TX12 0
theorem nmX12 : ∀ a, a < 0 → ∀ b, b < 0 → a ≠ b → (TX12 a).2.1 ≠ (TX12 b).2.1 := by decide +kernel
theorem tyX12_ok : ∀ k, k < 0 → parseFieldDescriptor (TX12 k).2.2.1 = some (tyX12 k) := by decide +kernel
def RJ9 : String := "java/lang/Math"
abbrev cJ9_floorDiv_7cf53 : ByteArray := prog_15_method_47_code
def yJ9_floorDiv_7cf53 : MethodName := ⟨RJ9, "floorDiv", "(II)I"⟩
abbrev cJ9_max_7cf53 : ByteArray := prog_15_method_65_code
def yJ9_max_7cf53 : MethodName := ⟨RJ9, "max", "(II)I"⟩
abbrev cJ9_min_7cf53 : ByteArray := prog_15_method_69_code
def yJ9_min_7cf53 : MethodName := ⟨RJ9, "min", "(II)I"⟩
def RJ10 : String := "java/lang/System"
def RL : String := "RainRecorderLaw"
abbrev cL_cell : ByteArray := method_2_code
def yL_cell : MethodName := ⟨RL, "cell", "([II)I"⟩
abbrev cL_holds : ByteArray := method_3_code
def yL_holds : MethodName := ⟨RL, "holds", "(LRainRecorder;)Z"⟩
abbrev cL_parted : ByteArray := method_4_code
def yL_parted : MethodName := ⟨RL, "parted", "(LRainRecorder;II)Z"⟩
abbrev cL_law : ByteArray := code
def yL_law : MethodName := ⟨RL, "law", "([I)Z"⟩
abbrev vwCl : List vw_C := [(RX0, TX0, 6), (RX1, TX1, 2), (RX2, TX2, 2), (RX3, TX3, 3), (RX4, TX4, 2), (RX5, TX5, 4), (RX6, TX6, 3), (RX7, TX7, 7), (RX8, TX8, 4), (RX9, TX9, 9), (RX10, TX10, 2), (RX11, TX11, 6)]
/-- the words that every method takes: those of the tables that stay while the machine goes on -/
def TB : List Cond := lw_tbl.filter goodWord
theorem TB_good : GoodIn TB TB := fun w h => ⟨h, good_of_word (List.mem_filter.mp h).2⟩
theorem tbm (i : Nat) {w : Cond} (h : lw_tbl[i]? = some w) (g : goodWord w = true) : w ∈ TB := List.mem_filter.mpr ⟨List.mem_of_getElem? h, g⟩
def nestWord : Cond → Bool
  | .methodLinkNest _ _ _ _ => true
  | .fieldLinkNest _ _ _ _ _ _ => true
  | _ => false
def TN : List Cond := lw_tbl.filter nestWord
theorem tnm (i : Nat) {w : Cond} (h : lw_tbl[i]? = some w) (g : nestWord w = true) : w ∈ TN := List.mem_filter.mpr ⟨List.mem_of_getElem? h, g⟩
theorem tb_sub {ws : List Cond} (h1 : ∀ w ∈ ws, w ∈ lw_tbl) (h2 : ws.all goodWord = true) : ∀ w ∈ ws, w ∈ TB := fun w h => List.mem_filter.mpr ⟨h1 w h, List.all_eq_true.mp h2 w h⟩
set_option maxRecDepth 100000 in
theorem tb_in0 : ∀ w ∈ u_ws RX0 TX0 6, w ∈ TB := tb_sub (by decide +kernel) (by decide +kernel)
set_option maxRecDepth 100000 in
theorem tb_in1 : ∀ w ∈ u_ws RX1 TX1 2, w ∈ TB := tb_sub (by decide +kernel) (by decide +kernel)
set_option maxRecDepth 100000 in
theorem tb_in2 : ∀ w ∈ u_ws RX2 TX2 2, w ∈ TB := tb_sub (by decide +kernel) (by decide +kernel)
set_option maxRecDepth 100000 in
theorem tb_in3 : ∀ w ∈ u_ws RX3 TX3 3, w ∈ TB := tb_sub (by decide +kernel) (by decide +kernel)
set_option maxRecDepth 100000 in
theorem tb_in4 : ∀ w ∈ u_ws RX4 TX4 2, w ∈ TB := tb_sub (by decide +kernel) (by decide +kernel)
set_option maxRecDepth 100000 in
theorem tb_in5 : ∀ w ∈ u_ws RX5 TX5 4, w ∈ TB := tb_sub (by decide +kernel) (by decide +kernel)
set_option maxRecDepth 100000 in
theorem tb_in6 : ∀ w ∈ u_ws RX6 TX6 3, w ∈ TB := tb_sub (by decide +kernel) (by decide +kernel)
set_option maxRecDepth 100000 in
theorem tb_in7 : ∀ w ∈ u_ws RX7 TX7 7, w ∈ TB := tb_sub (by decide +kernel) (by decide +kernel)
set_option maxRecDepth 100000 in
theorem tb_in8 : ∀ w ∈ u_ws RX8 TX8 4, w ∈ TB := tb_sub (by decide +kernel) (by decide +kernel)
set_option maxRecDepth 100000 in
theorem tb_in9 : ∀ w ∈ u_ws RX9 TX9 9, w ∈ TB := tb_sub (by decide +kernel) (by decide +kernel)
set_option maxRecDepth 100000 in
theorem tb_in10 : ∀ w ∈ u_ws RX10 TX10 2, w ∈ TB := tb_sub (by decide +kernel) (by decide +kernel)
set_option maxRecDepth 100000 in
theorem tb_in11 : ∀ w ∈ u_ws RX11 TX11 6, w ∈ TB := tb_sub (by decide +kernel) (by decide +kernel)
set_option maxRecDepth 100000 in
theorem tb_in12 : ∀ w ∈ u_ws RX12 TX12 0, w ∈ TB := tb_sub (by decide +kernel) (by decide +kernel)
end
section
theorem dX0_init_0 : decode cX0_init 0 = .ok (.aload_n 0, 1) := by decide +kernel
theorem dX0_init_1 : decode cX0_init 1 = .ok (.invokespecial 3, 3) := by decide +kernel
theorem dX0_init_4 : decode cX0_init 4 = .ok (.return_, 1) := by decide +kernel
theorem dX0_copyFrom_0 : decode cX0_copyFrom 0 = .ok (.aload_n 0, 1) := by decide +kernel
theorem dX0_copyFrom_1 : decode cX0_copyFrom 1 = .ok (.aload_n 1, 1) := by decide +kernel
theorem dX0_copyFrom_2 : decode cX0_copyFrom 2 = .ok (.getfield 9, 3) := by decide +kernel
theorem dX0_copyFrom_5 : decode cX0_copyFrom 5 = .ok (.putfield 9, 3) := by decide +kernel
theorem dX0_copyFrom_8 : decode cX0_copyFrom 8 = .ok (.aload_n 0, 1) := by decide +kernel
theorem dX0_copyFrom_9 : decode cX0_copyFrom 9 = .ok (.aload_n 1, 1) := by decide +kernel
theorem dX0_copyFrom_10 : decode cX0_copyFrom 10 = .ok (.getfield 15, 3) := by decide +kernel
theorem dX0_copyFrom_13 : decode cX0_copyFrom 13 = .ok (.putfield 15, 3) := by decide +kernel
theorem dX0_copyFrom_16 : decode cX0_copyFrom 16 = .ok (.aload_n 0, 1) := by decide +kernel
theorem dX0_copyFrom_17 : decode cX0_copyFrom 17 = .ok (.aload_n 1, 1) := by decide +kernel
theorem dX0_copyFrom_18 : decode cX0_copyFrom 18 = .ok (.getfield 18, 3) := by decide +kernel
theorem dX0_copyFrom_21 : decode cX0_copyFrom 21 = .ok (.putfield 18, 3) := by decide +kernel
theorem dX0_copyFrom_24 : decode cX0_copyFrom 24 = .ok (.aload_n 0, 1) := by decide +kernel
theorem dX0_copyFrom_25 : decode cX0_copyFrom 25 = .ok (.aload_n 1, 1) := by decide +kernel
theorem dX0_copyFrom_26 : decode cX0_copyFrom 26 = .ok (.getfield 21, 3) := by decide +kernel
theorem dX0_copyFrom_29 : decode cX0_copyFrom 29 = .ok (.putfield 21, 3) := by decide +kernel
theorem dX0_copyFrom_32 : decode cX0_copyFrom 32 = .ok (.aload_n 0, 1) := by decide +kernel
theorem dX0_copyFrom_33 : decode cX0_copyFrom 33 = .ok (.aload_n 1, 1) := by decide +kernel
theorem dX0_copyFrom_34 : decode cX0_copyFrom 34 = .ok (.getfield 24, 3) := by decide +kernel
theorem dX0_copyFrom_37 : decode cX0_copyFrom 37 = .ok (.putfield 24, 3) := by decide +kernel
theorem dX0_copyFrom_40 : decode cX0_copyFrom 40 = .ok (.aload_n 0, 1) := by decide +kernel
theorem dX0_copyFrom_41 : decode cX0_copyFrom 41 = .ok (.aload_n 1, 1) := by decide +kernel
theorem dX0_copyFrom_42 : decode cX0_copyFrom 42 = .ok (.getfield 27, 3) := by decide +kernel
theorem dX0_copyFrom_45 : decode cX0_copyFrom 45 = .ok (.putfield 27, 3) := by decide +kernel
theorem dX0_copyFrom_48 : decode cX0_copyFrom 48 = .ok (.return_, 1) := by decide +kernel
theorem dX0_passTick_0 : decode cX0_passTick 0 = .ok (.aload_n 0, 1) := by decide +kernel
theorem dX0_passTick_1 : decode cX0_passTick 1 = .ok (.getfield 15, 3) := by decide +kernel
theorem dX0_passTick_4 : decode cX0_passTick 4 = .ok (.ifCond .le 25, 3) := by decide +kernel
theorem dX0_passTick_7 : decode cX0_passTick 7 = .ok (.aload_n 0, 1) := by decide +kernel
theorem dX0_passTick_8 : decode cX0_passTick 8 = .ok (.dup, 1) := by decide +kernel
theorem dX0_passTick_9 : decode cX0_passTick 9 = .ok (.getfield 24, 3) := by decide +kernel
theorem dX0_passTick_12 : decode cX0_passTick 12 = .ok (.iload_n 1, 1) := by decide +kernel
theorem dX0_passTick_13 : decode cX0_passTick 13 = .ok (.iadd, 1) := by decide +kernel
theorem dX0_passTick_14 : decode cX0_passTick 14 = .ok (.putfield 24, 3) := by decide +kernel
theorem dX0_passTick_17 : decode cX0_passTick 17 = .ok (.aload_n 0, 1) := by decide +kernel
theorem dX0_passTick_18 : decode cX0_passTick 18 = .ok (.dup, 1) := by decide +kernel
theorem dX0_passTick_19 : decode cX0_passTick 19 = .ok (.getfield 15, 3) := by decide +kernel
theorem dX0_passTick_22 : decode cX0_passTick 22 = .ok (.iconst 1, 1) := by decide +kernel
theorem dX0_passTick_23 : decode cX0_passTick 23 = .ok (.isub, 1) := by decide +kernel
theorem dX0_passTick_24 : decode cX0_passTick 24 = .ok (.putfield 15, 3) := by decide +kernel
theorem dX0_passTick_27 : decode cX0_passTick 27 = .ok (.iconst (-1), 1) := by decide +kernel
theorem dX0_passTick_28 : decode cX0_passTick 28 = .ok (.ireturn, 1) := by decide +kernel
theorem dX0_passTick_29 : decode cX0_passTick 29 = .ok (.aload_n 0, 1) := by decide +kernel
theorem dX0_passTick_30 : decode cX0_passTick 30 = .ok (.dup, 1) := by decide +kernel
theorem dX0_passTick_31 : decode cX0_passTick 31 = .ok (.getfield 9, 3) := by decide +kernel
theorem dX0_passTick_34 : decode cX0_passTick 34 = .ok (.iload_n 1, 1) := by decide +kernel
theorem dX0_passTick_35 : decode cX0_passTick 35 = .ok (.iadd, 1) := by decide +kernel
theorem dX0_passTick_36 : decode cX0_passTick 36 = .ok (.putfield 9, 3) := by decide +kernel
theorem dX0_passTick_39 : decode cX0_passTick 39 = .ok (.iload_n 2, 1) := by decide +kernel
theorem dX0_passTick_40 : decode cX0_passTick 40 = .ok (.ifCond .eq 36, 3) := by decide +kernel
theorem dX0_passTick_43 : decode cX0_passTick 43 = .ok (.aload_n 0, 1) := by decide +kernel
theorem dX0_passTick_44 : decode cX0_passTick 44 = .ok (.getfield 9, 3) := by decide +kernel
theorem dX0_passTick_47 : decode cX0_passTick 47 = .ok (.iload 5, 2) := by decide +kernel
theorem dX0_passTick_49 : decode cX0_passTick 49 = .ok (.invokestatic 30, 3) := by decide +kernel
theorem dX0_passTick_52 : decode cX0_passTick 52 = .ok (.istore 6, 2) := by decide +kernel
theorem dX0_passTick_54 : decode cX0_passTick 54 = .ok (.aload_n 0, 1) := by decide +kernel
theorem dX0_passTick_55 : decode cX0_passTick 55 = .ok (.dup, 1) := by decide +kernel
theorem dX0_passTick_56 : decode cX0_passTick 56 = .ok (.getfield 9, 3) := by decide +kernel
theorem dX0_passTick_59 : decode cX0_passTick 59 = .ok (.iload 6, 2) := by decide +kernel
theorem dX0_passTick_61 : decode cX0_passTick 61 = .ok (.isub, 1) := by decide +kernel
theorem dX0_passTick_62 : decode cX0_passTick 62 = .ok (.putfield 9, 3) := by decide +kernel
theorem dX0_passTick_65 : decode cX0_passTick 65 = .ok (.aload_n 0, 1) := by decide +kernel
theorem dX0_passTick_66 : decode cX0_passTick 66 = .ok (.dup, 1) := by decide +kernel
theorem dX0_passTick_67 : decode cX0_passTick 67 = .ok (.getfield 27, 3) := by decide +kernel
theorem dX0_passTick_70 : decode cX0_passTick 70 = .ok (.iload 6, 2) := by decide +kernel
theorem dX0_passTick_72 : decode cX0_passTick 72 = .ok (.iadd, 1) := by decide +kernel
theorem dX0_passTick_73 : decode cX0_passTick 73 = .ok (.putfield 27, 3) := by decide +kernel
theorem dX0_passTick_76 : decode cX0_passTick 76 = .ok (.aload_n 0, 1) := by decide +kernel
theorem dX0_passTick_77 : decode cX0_passTick 77 = .ok (.getfield 9, 3) := by decide +kernel
theorem dX0_passTick_80 : decode cX0_passTick 80 = .ok (.iload_n 3, 1) := by decide +kernel
theorem dX0_passTick_81 : decode cX0_passTick 81 = .ok (.if_icmp .lt 13, 3) := by decide +kernel
theorem dX0_passTick_84 : decode cX0_passTick 84 = .ok (.aload_n 0, 1) := by decide +kernel
theorem dX0_passTick_85 : decode cX0_passTick 85 = .ok (.iload_n 3, 1) := by decide +kernel
theorem dX0_passTick_86 : decode cX0_passTick 86 = .ok (.iload 4, 2) := by decide +kernel
theorem dX0_passTick_88 : decode cX0_passTick 88 = .ok (.invokevirtual 36, 3) := by decide +kernel
theorem dX0_passTick_91 : decode cX0_passTick 91 = .ok (.goto 4, 3) := by decide +kernel
theorem dX0_passTick_94 : decode cX0_passTick 94 = .ok (.iconst (-1), 1) := by decide +kernel
theorem dX0_passTick_95 : decode cX0_passTick 95 = .ok (.ireturn, 1) := by decide +kernel
theorem dX0_tip_0 : decode cX0_tip 0 = .ok (.aload_n 0, 1) := by decide +kernel
theorem dX0_tip_1 : decode cX0_tip 1 = .ok (.getfield 9, 3) := by decide +kernel
theorem dX0_tip_4 : decode cX0_tip 4 = .ok (.iload_n 1, 1) := by decide +kernel
theorem dX0_tip_5 : decode cX0_tip 5 = .ok (.isub, 1) := by decide +kernel
theorem dX0_tip_6 : decode cX0_tip 6 = .ok (.istore_n 3, 1) := by decide +kernel
theorem dX0_tip_7 : decode cX0_tip 7 = .ok (.aload_n 0, 1) := by decide +kernel
theorem dX0_tip_8 : decode cX0_tip 8 = .ok (.dup, 1) := by decide +kernel
theorem dX0_tip_9 : decode cX0_tip 9 = .ok (.getfield 18, 3) := by decide +kernel
theorem dX0_tip_12 : decode cX0_tip 12 = .ok (.iload_n 1, 1) := by decide +kernel
theorem dX0_tip_13 : decode cX0_tip 13 = .ok (.iadd, 1) := by decide +kernel
theorem dX0_tip_14 : decode cX0_tip 14 = .ok (.putfield 18, 3) := by decide +kernel
theorem dX0_tip_17 : decode cX0_tip 17 = .ok (.aload_n 0, 1) := by decide +kernel
theorem dX0_tip_18 : decode cX0_tip 18 = .ok (.dup, 1) := by decide +kernel
theorem dX0_tip_19 : decode cX0_tip 19 = .ok (.getfield 21, 3) := by decide +kernel
theorem dX0_tip_22 : decode cX0_tip 22 = .ok (.iload_n 3, 1) := by decide +kernel
theorem dX0_tip_23 : decode cX0_tip 23 = .ok (.iadd, 1) := by decide +kernel
theorem dX0_tip_24 : decode cX0_tip 24 = .ok (.putfield 21, 3) := by decide +kernel
theorem dX0_tip_27 : decode cX0_tip 27 = .ok (.aload_n 0, 1) := by decide +kernel
theorem dX0_tip_28 : decode cX0_tip 28 = .ok (.iconst 0, 1) := by decide +kernel
theorem dX0_tip_29 : decode cX0_tip 29 = .ok (.putfield 9, 3) := by decide +kernel
theorem dX0_tip_32 : decode cX0_tip 32 = .ok (.aload_n 0, 1) := by decide +kernel
theorem dX0_tip_33 : decode cX0_tip 33 = .ok (.iload_n 2, 1) := by decide +kernel
theorem dX0_tip_34 : decode cX0_tip 34 = .ok (.putfield 15, 3) := by decide +kernel
theorem dX0_tip_37 : decode cX0_tip 37 = .ok (.iload_n 3, 1) := by decide +kernel
theorem dX0_tip_38 : decode cX0_tip 38 = .ok (.ireturn, 1) := by decide +kernel
theorem dX1_init_0 : decode cX1_init 0 = .ok (.aload_n 0, 1) := by decide +kernel
theorem dX1_init_1 : decode cX1_init 1 = .ok (.invokespecial 3, 3) := by decide +kernel
theorem dX1_init_4 : decode cX1_init 4 = .ok (.aload_n 0, 1) := by decide +kernel
theorem dX1_init_5 : decode cX1_init 5 = .ok (.getstatic 9, 3) := by decide +kernel
theorem dX1_init_8 : decode cX1_init 8 = .ok (.bipush 6, 2) := by decide +kernel
theorem dX1_init_10 : decode cX1_init 10 = .ok (.iaload, 1) := by decide +kernel
theorem dX1_init_11 : decode cX1_init 11 = .ok (.putfield 13, 3) := by decide +kernel
theorem dX1_init_14 : decode cX1_init 14 = .ok (.return_, 1) := by decide +kernel
theorem dX1_copyFrom_0 : decode cX1_copyFrom 0 = .ok (.aload_n 0, 1) := by decide +kernel
theorem dX1_copyFrom_1 : decode cX1_copyFrom 1 = .ok (.aload_n 1, 1) := by decide +kernel
theorem dX1_copyFrom_2 : decode cX1_copyFrom 2 = .ok (.getfield 13, 3) := by decide +kernel
theorem dX1_copyFrom_5 : decode cX1_copyFrom 5 = .ok (.putfield 13, 3) := by decide +kernel
theorem dX1_copyFrom_8 : decode cX1_copyFrom 8 = .ok (.aload_n 0, 1) := by decide +kernel
theorem dX1_copyFrom_9 : decode cX1_copyFrom 9 = .ok (.aload_n 1, 1) := by decide +kernel
theorem dX1_copyFrom_10 : decode cX1_copyFrom 10 = .ok (.getfield 19, 3) := by decide +kernel
theorem dX1_copyFrom_13 : decode cX1_copyFrom 13 = .ok (.putfield 19, 3) := by decide +kernel
theorem dX1_copyFrom_16 : decode cX1_copyFrom 16 = .ok (.return_, 1) := by decide +kernel
theorem dX1_passTick_0 : decode cX1_passTick 0 = .ok (.aload_n 0, 1) := by decide +kernel
theorem dX1_passTick_1 : decode cX1_passTick 1 = .ok (.getfield 13, 3) := by decide +kernel
theorem dX1_passTick_4 : decode cX1_passTick 4 = .ok (.ifCond .le 23, 3) := by decide +kernel
theorem dX1_passTick_7 : decode cX1_passTick 7 = .ok (.aload_n 0, 1) := by decide +kernel
theorem dX1_passTick_8 : decode cX1_passTick 8 = .ok (.dup, 1) := by decide +kernel
theorem dX1_passTick_9 : decode cX1_passTick 9 = .ok (.getfield 13, 3) := by decide +kernel
theorem dX1_passTick_12 : decode cX1_passTick 12 = .ok (.iconst 1, 1) := by decide +kernel
theorem dX1_passTick_13 : decode cX1_passTick 13 = .ok (.isub, 1) := by decide +kernel
theorem dX1_passTick_14 : decode cX1_passTick 14 = .ok (.putfield 13, 3) := by decide +kernel
theorem dX1_passTick_17 : decode cX1_passTick 17 = .ok (.aload_n 0, 1) := by decide +kernel
theorem dX1_passTick_18 : decode cX1_passTick 18 = .ok (.dup, 1) := by decide +kernel
theorem dX1_passTick_19 : decode cX1_passTick 19 = .ok (.getfield 19, 3) := by decide +kernel
theorem dX1_passTick_22 : decode cX1_passTick 22 = .ok (.iconst 1, 1) := by decide +kernel
theorem dX1_passTick_23 : decode cX1_passTick 23 = .ok (.iadd, 1) := by decide +kernel
theorem dX1_passTick_24 : decode cX1_passTick 24 = .ok (.putfield 19, 3) := by decide +kernel
theorem dX1_passTick_27 : decode cX1_passTick 27 = .ok (.return_, 1) := by decide +kernel
theorem dX2_init_0 : decode cX2_init 0 = .ok (.aload_n 0, 1) := by decide +kernel
theorem dX2_init_1 : decode cX2_init 1 = .ok (.invokespecial 1, 3) := by decide +kernel
theorem dX2_init_4 : decode cX2_init 4 = .ok (.return_, 1) := by decide +kernel
theorem dX2_copyFrom_0 : decode cX2_copyFrom 0 = .ok (.aload_n 0, 1) := by decide +kernel
theorem dX2_copyFrom_1 : decode cX2_copyFrom 1 = .ok (.aload_n 1, 1) := by decide +kernel
theorem dX2_copyFrom_2 : decode cX2_copyFrom 2 = .ok (.getfield 7, 3) := by decide +kernel
theorem dX2_copyFrom_5 : decode cX2_copyFrom 5 = .ok (.putfield 7, 3) := by decide +kernel
theorem dX2_copyFrom_8 : decode cX2_copyFrom 8 = .ok (.aload_n 0, 1) := by decide +kernel
theorem dX2_copyFrom_9 : decode cX2_copyFrom 9 = .ok (.aload_n 1, 1) := by decide +kernel
theorem dX2_copyFrom_10 : decode cX2_copyFrom 10 = .ok (.getfield 13, 3) := by decide +kernel
theorem dX2_copyFrom_13 : decode cX2_copyFrom 13 = .ok (.putfield 13, 3) := by decide +kernel
theorem dX2_copyFrom_16 : decode cX2_copyFrom 16 = .ok (.return_, 1) := by decide +kernel
theorem dX2_passTick_0 : decode cX2_passTick 0 = .ok (.iload_n 1, 1) := by decide +kernel
theorem dX2_passTick_1 : decode cX2_passTick 1 = .ok (.iconst 0, 1) := by decide +kernel
theorem dX2_passTick_2 : decode cX2_passTick 2 = .ok (.iload_n 2, 1) := by decide +kernel
theorem dX2_passTick_3 : decode cX2_passTick 3 = .ok (.aload_n 0, 1) := by decide +kernel
theorem dX2_passTick_4 : decode cX2_passTick 4 = .ok (.getfield 7, 3) := by decide +kernel
theorem dX2_passTick_7 : decode cX2_passTick 7 = .ok (.isub, 1) := by decide +kernel
theorem dX2_passTick_8 : decode cX2_passTick 8 = .ok (.invokestatic 16, 3) := by decide +kernel
theorem dX2_passTick_11 : decode cX2_passTick 11 = .ok (.invokestatic 22, 3) := by decide +kernel
theorem dX2_passTick_14 : decode cX2_passTick 14 = .ok (.istore 4, 2) := by decide +kernel
theorem dX2_passTick_16 : decode cX2_passTick 16 = .ok (.aload_n 0, 1) := by decide +kernel
theorem dX2_passTick_17 : decode cX2_passTick 17 = .ok (.dup, 1) := by decide +kernel
theorem dX2_passTick_18 : decode cX2_passTick 18 = .ok (.getfield 7, 3) := by decide +kernel
theorem dX2_passTick_21 : decode cX2_passTick 21 = .ok (.iload 4, 2) := by decide +kernel
theorem dX2_passTick_23 : decode cX2_passTick 23 = .ok (.iadd, 1) := by decide +kernel
theorem dX2_passTick_24 : decode cX2_passTick 24 = .ok (.putfield 7, 3) := by decide +kernel
theorem dX2_passTick_27 : decode cX2_passTick 27 = .ok (.iload_n 1, 1) := by decide +kernel
theorem dX2_passTick_28 : decode cX2_passTick 28 = .ok (.ifCond .ne 35, 3) := by decide +kernel
theorem dX2_passTick_31 : decode cX2_passTick 31 = .ok (.aload_n 0, 1) := by decide +kernel
theorem dX2_passTick_32 : decode cX2_passTick 32 = .ok (.getfield 7, 3) := by decide +kernel
theorem dX2_passTick_35 : decode cX2_passTick 35 = .ok (.iload_n 3, 1) := by decide +kernel
theorem dX2_passTick_36 : decode cX2_passTick 36 = .ok (.invokestatic 22, 3) := by decide +kernel
theorem dX2_passTick_39 : decode cX2_passTick 39 = .ok (.istore 5, 2) := by decide +kernel
theorem dX2_passTick_41 : decode cX2_passTick 41 = .ok (.aload_n 0, 1) := by decide +kernel
theorem dX2_passTick_42 : decode cX2_passTick 42 = .ok (.dup, 1) := by decide +kernel
theorem dX2_passTick_43 : decode cX2_passTick 43 = .ok (.getfield 7, 3) := by decide +kernel
theorem dX2_passTick_46 : decode cX2_passTick 46 = .ok (.iload 5, 2) := by decide +kernel
theorem dX2_passTick_48 : decode cX2_passTick 48 = .ok (.isub, 1) := by decide +kernel
theorem dX2_passTick_49 : decode cX2_passTick 49 = .ok (.putfield 7, 3) := by decide +kernel
theorem dX2_passTick_52 : decode cX2_passTick 52 = .ok (.aload_n 0, 1) := by decide +kernel
theorem dX2_passTick_53 : decode cX2_passTick 53 = .ok (.dup, 1) := by decide +kernel
theorem dX2_passTick_54 : decode cX2_passTick 54 = .ok (.getfield 13, 3) := by decide +kernel
theorem dX2_passTick_57 : decode cX2_passTick 57 = .ok (.iload 5, 2) := by decide +kernel
theorem dX2_passTick_59 : decode cX2_passTick 59 = .ok (.iadd, 1) := by decide +kernel
theorem dX2_passTick_60 : decode cX2_passTick 60 = .ok (.putfield 13, 3) := by decide +kernel
theorem dX2_passTick_63 : decode cX2_passTick 63 = .ok (.iload_n 1, 1) := by decide +kernel
theorem dX2_passTick_64 : decode cX2_passTick 64 = .ok (.iload 4, 2) := by decide +kernel
theorem dX2_passTick_66 : decode cX2_passTick 66 = .ok (.isub, 1) := by decide +kernel
theorem dX2_passTick_67 : decode cX2_passTick 67 = .ok (.ireturn, 1) := by decide +kernel
theorem dX3_init_0 : decode cX3_init 0 = .ok (.aload_n 0, 1) := by decide +kernel
theorem dX3_init_1 : decode cX3_init 1 = .ok (.invokespecial 3, 3) := by decide +kernel
theorem dX3_init_4 : decode cX3_init 4 = .ok (.aload_n 0, 1) := by decide +kernel
theorem dX3_init_5 : decode cX3_init 5 = .ok (.iconst 3, 1) := by decide +kernel
theorem dX3_init_6 : decode cX3_init 6 = .ok (.newarray .int, 2) := by decide +kernel
theorem dX3_init_8 : decode cX3_init 8 = .ok (.putfield 9, 3) := by decide +kernel
theorem dX3_init_11 : decode cX3_init 11 = .ok (.aload_n 0, 1) := by decide +kernel
theorem dX3_init_12 : decode cX3_init 12 = .ok (.iconst 3, 1) := by decide +kernel
theorem dX3_init_13 : decode cX3_init 13 = .ok (.newarray .int, 2) := by decide +kernel
theorem dX3_init_15 : decode cX3_init 15 = .ok (.putfield 15, 3) := by decide +kernel
theorem dX3_init_18 : decode cX3_init 18 = .ok (.return_, 1) := by decide +kernel
theorem dX3_copyFrom_0 : decode cX3_copyFrom 0 = .ok (.aload_n 1, 1) := by decide +kernel
theorem dX3_copyFrom_1 : decode cX3_copyFrom 1 = .ok (.getfield 9, 3) := by decide +kernel
theorem dX3_copyFrom_4 : decode cX3_copyFrom 4 = .ok (.aload_n 0, 1) := by decide +kernel
theorem dX3_copyFrom_5 : decode cX3_copyFrom 5 = .ok (.getfield 9, 3) := by decide +kernel
theorem dX3_copyFrom_8 : decode cX3_copyFrom 8 = .ok (.invokestatic 18, 3) := by decide +kernel
theorem dX3_copyFrom_11 : decode cX3_copyFrom 11 = .ok (.aload_n 1, 1) := by decide +kernel
theorem dX3_copyFrom_12 : decode cX3_copyFrom 12 = .ok (.getfield 15, 3) := by decide +kernel
theorem dX3_copyFrom_15 : decode cX3_copyFrom 15 = .ok (.aload_n 0, 1) := by decide +kernel
theorem dX3_copyFrom_16 : decode cX3_copyFrom 16 = .ok (.getfield 15, 3) := by decide +kernel
theorem dX3_copyFrom_19 : decode cX3_copyFrom 19 = .ok (.invokestatic 18, 3) := by decide +kernel
theorem dX3_copyFrom_22 : decode cX3_copyFrom 22 = .ok (.aload_n 0, 1) := by decide +kernel
theorem dX3_copyFrom_23 : decode cX3_copyFrom 23 = .ok (.aload_n 1, 1) := by decide +kernel
theorem dX3_copyFrom_24 : decode cX3_copyFrom 24 = .ok (.getfield 22, 3) := by decide +kernel
theorem dX3_copyFrom_27 : decode cX3_copyFrom 27 = .ok (.putfield 22, 3) := by decide +kernel
theorem dX3_copyFrom_30 : decode cX3_copyFrom 30 = .ok (.return_, 1) := by decide +kernel
theorem dX3_placeOf_0 : decode cX3_placeOf 0 = .ok (.iload_n 1, 1) := by decide +kernel
theorem dX3_placeOf_1 : decode cX3_placeOf 1 = .ok (.i2l, 1) := by decide +kernel
theorem dX3_placeOf_2 : decode cX3_placeOf 2 = .ok (.lstore_n 3, 1) := by decide +kernel
theorem dX3_placeOf_3 : decode cX3_placeOf 3 = .ok (.lconst 1, 1) := by decide +kernel
theorem dX3_placeOf_4 : decode cX3_placeOf 4 = .ok (.lstore 5, 2) := by decide +kernel
theorem dX3_placeOf_6 : decode cX3_placeOf 6 = .ok (.iconst 0, 1) := by decide +kernel
theorem dX3_placeOf_7 : decode cX3_placeOf 7 = .ok (.istore 7, 2) := by decide +kernel
theorem dX3_placeOf_9 : decode cX3_placeOf 9 = .ok (.iload 7, 2) := by decide +kernel
theorem dX3_placeOf_11 : decode cX3_placeOf 11 = .ok (.aload_n 0, 1) := by decide +kernel
theorem dX3_placeOf_12 : decode cX3_placeOf 12 = .ok (.getfield 22, 3) := by decide +kernel
theorem dX3_placeOf_15 : decode cX3_placeOf 15 = .ok (.if_icmp .ge 33, 3) := by decide +kernel
theorem dX3_placeOf_18 : decode cX3_placeOf 18 = .ok (.lload_n 3, 1) := by decide +kernel
theorem dX3_placeOf_19 : decode cX3_placeOf 19 = .ok (.aload_n 0, 1) := by decide +kernel
theorem dX3_placeOf_20 : decode cX3_placeOf 20 = .ok (.getfield 9, 3) := by decide +kernel
theorem dX3_placeOf_23 : decode cX3_placeOf 23 = .ok (.iload 7, 2) := by decide +kernel
theorem dX3_placeOf_25 : decode cX3_placeOf 25 = .ok (.iaload, 1) := by decide +kernel
theorem dX3_placeOf_26 : decode cX3_placeOf 26 = .ok (.i2l, 1) := by decide +kernel
theorem dX3_placeOf_27 : decode cX3_placeOf 27 = .ok (.lmul, 1) := by decide +kernel
theorem dX3_placeOf_28 : decode cX3_placeOf 28 = .ok (.lstore_n 3, 1) := by decide +kernel
theorem dX3_placeOf_29 : decode cX3_placeOf 29 = .ok (.lload 5, 2) := by decide +kernel
theorem dX3_placeOf_31 : decode cX3_placeOf 31 = .ok (.aload_n 0, 1) := by decide +kernel
theorem dX3_placeOf_32 : decode cX3_placeOf 32 = .ok (.getfield 15, 3) := by decide +kernel
theorem dX3_placeOf_35 : decode cX3_placeOf 35 = .ok (.iload 7, 2) := by decide +kernel
theorem dX3_placeOf_37 : decode cX3_placeOf 37 = .ok (.iaload, 1) := by decide +kernel
theorem dX3_placeOf_38 : decode cX3_placeOf 38 = .ok (.i2l, 1) := by decide +kernel
theorem dX3_placeOf_39 : decode cX3_placeOf 39 = .ok (.lmul, 1) := by decide +kernel
theorem dX3_placeOf_40 : decode cX3_placeOf 40 = .ok (.lstore 5, 2) := by decide +kernel
theorem dX3_placeOf_42 : decode cX3_placeOf 42 = .ok (.iinc 7 1, 3) := by decide +kernel
theorem dX3_placeOf_45 : decode cX3_placeOf 45 = .ok (.goto (-36), 3) := by decide +kernel
theorem dX3_placeOf_48 : decode cX3_placeOf 48 = .ok (.lload 5, 2) := by decide +kernel
theorem dX3_placeOf_50 : decode cX3_placeOf 50 = .ok (.lconst 0, 1) := by decide +kernel
theorem dX3_placeOf_51 : decode cX3_placeOf 51 = .ok (.lcmp, 1) := by decide +kernel
theorem dX3_placeOf_52 : decode cX3_placeOf 52 = .ok (.ifCond .eq 7, 3) := by decide +kernel
theorem dX3_placeOf_55 : decode cX3_placeOf 55 = .ok (.iload_n 2, 1) := by decide +kernel
theorem dX3_placeOf_56 : decode cX3_placeOf 56 = .ok (.ifCond .ne 5, 3) := by decide +kernel
theorem dX3_placeOf_59 : decode cX3_placeOf 59 = .ok (.iconst 0, 1) := by decide +kernel
theorem dX3_placeOf_60 : decode cX3_placeOf 60 = .ok (.ireturn, 1) := by decide +kernel
theorem dX3_placeOf_61 : decode cX3_placeOf 61 = .ok (.lload_n 3, 1) := by decide +kernel
theorem dX3_placeOf_62 : decode cX3_placeOf 62 = .ok (.lload 5, 2) := by decide +kernel
theorem dX3_placeOf_64 : decode cX3_placeOf 64 = .ok (.ldiv, 1) := by decide +kernel
theorem dX3_placeOf_65 : decode cX3_placeOf 65 = .ok (.iload_n 2, 1) := by decide +kernel
theorem dX3_placeOf_66 : decode cX3_placeOf 66 = .ok (.i2l, 1) := by decide +kernel
theorem dX3_placeOf_67 : decode cX3_placeOf 67 = .ok (.lrem, 1) := by decide +kernel
theorem dX3_placeOf_68 : decode cX3_placeOf 68 = .ok (.l2i, 1) := by decide +kernel
theorem dX3_placeOf_69 : decode cX3_placeOf 69 = .ok (.ireturn, 1) := by decide +kernel
theorem dX4_init_0 : decode cX4_init 0 = .ok (.aload_n 0, 1) := by decide +kernel
theorem dX4_init_1 : decode cX4_init 1 = .ok (.invokespecial 3, 3) := by decide +kernel
theorem dX4_init_4 : decode cX4_init 4 = .ok (.aload_n 0, 1) := by decide +kernel
theorem dX4_init_5 : decode cX4_init 5 = .ok (.iconst 5, 1) := by decide +kernel
theorem dX4_init_6 : decode cX4_init 6 = .ok (.anewarray 9, 3) := by decide +kernel
theorem dX4_init_9 : decode cX4_init 9 = .ok (.putfield 11, 3) := by decide +kernel
theorem dX4_init_12 : decode cX4_init 12 = .ok (.iconst 0, 1) := by decide +kernel
theorem dX4_init_13 : decode cX4_init 13 = .ok (.istore_n 1, 1) := by decide +kernel
theorem dX4_init_14 : decode cX4_init 14 = .ok (.iload_n 1, 1) := by decide +kernel
theorem dX4_init_15 : decode cX4_init 15 = .ok (.iconst 5, 1) := by decide +kernel
theorem dX4_init_16 : decode cX4_init 16 = .ok (.if_icmp .ge 22, 3) := by decide +kernel
theorem dX4_init_19 : decode cX4_init 19 = .ok (.aload_n 0, 1) := by decide +kernel
theorem dX4_init_20 : decode cX4_init 20 = .ok (.getfield 11, 3) := by decide +kernel
theorem dX4_init_23 : decode cX4_init 23 = .ok (.iload_n 1, 1) := by decide +kernel
theorem dX4_init_24 : decode cX4_init 24 = .ok (.new 9, 3) := by decide +kernel
theorem dX4_init_27 : decode cX4_init 27 = .ok (.dup, 1) := by decide +kernel
theorem dX4_init_28 : decode cX4_init 28 = .ok (.invokespecial 17, 3) := by decide +kernel
theorem dX4_init_31 : decode cX4_init 31 = .ok (.aastore, 1) := by decide +kernel
theorem dX4_init_32 : decode cX4_init 32 = .ok (.iinc 1 1, 3) := by decide +kernel
theorem dX4_init_35 : decode cX4_init 35 = .ok (.goto (-21), 3) := by decide +kernel
theorem dX4_init_38 : decode cX4_init 38 = .ok (.return_, 1) := by decide +kernel
theorem dX4_keep_0 : decode cX4_keep 0 = .ok (.aload_n 0, 1) := by decide +kernel
theorem dX4_keep_1 : decode cX4_keep 1 = .ok (.getfield 18, 3) := by decide +kernel
theorem dX4_keep_4 : decode cX4_keep 4 = .ok (.iconst 5, 1) := by decide +kernel
theorem dX4_keep_5 : decode cX4_keep 5 = .ok (.if_icmp .lt 7, 3) := by decide +kernel
theorem dX4_keep_8 : decode cX4_keep 8 = .ok (.aload_n 0, 1) := by decide +kernel
theorem dX4_keep_9 : decode cX4_keep 9 = .ok (.invokevirtual 22, 3) := by decide +kernel
theorem dX4_keep_12 : decode cX4_keep 12 = .ok (.aload_n 0, 1) := by decide +kernel
theorem dX4_keep_13 : decode cX4_keep 13 = .ok (.getfield 11, 3) := by decide +kernel
theorem dX4_keep_16 : decode cX4_keep 16 = .ok (.aload_n 0, 1) := by decide +kernel
theorem dX4_keep_17 : decode cX4_keep 17 = .ok (.getfield 18, 3) := by decide +kernel
theorem dX4_keep_20 : decode cX4_keep 20 = .ok (.aaload, 1) := by decide +kernel
theorem dX4_keep_21 : decode cX4_keep 21 = .ok (.aload_n 1, 1) := by decide +kernel
theorem dX4_keep_22 : decode cX4_keep 22 = .ok (.invokevirtual 25, 3) := by decide +kernel
theorem dX4_keep_25 : decode cX4_keep 25 = .ok (.aload_n 0, 1) := by decide +kernel
theorem dX4_keep_26 : decode cX4_keep 26 = .ok (.dup, 1) := by decide +kernel
theorem dX4_keep_27 : decode cX4_keep 27 = .ok (.getfield 18, 3) := by decide +kernel
theorem dX4_keep_30 : decode cX4_keep 30 = .ok (.iconst 1, 1) := by decide +kernel
theorem dX4_keep_31 : decode cX4_keep 31 = .ok (.iadd, 1) := by decide +kernel
theorem dX4_keep_32 : decode cX4_keep 32 = .ok (.putfield 18, 3) := by decide +kernel
theorem dX4_keep_35 : decode cX4_keep 35 = .ok (.return_, 1) := by decide +kernel
theorem dX4_dropOldest_0 : decode cX4_dropOldest 0 = .ok (.aload_n 0, 1) := by decide +kernel
theorem dX4_dropOldest_1 : decode cX4_dropOldest 1 = .ok (.getfield 11, 3) := by decide +kernel
theorem dX4_dropOldest_4 : decode cX4_dropOldest 4 = .ok (.iconst 0, 1) := by decide +kernel
theorem dX4_dropOldest_5 : decode cX4_dropOldest 5 = .ok (.aaload, 1) := by decide +kernel
theorem dX4_dropOldest_6 : decode cX4_dropOldest 6 = .ok (.astore_n 1, 1) := by decide +kernel
theorem dX4_dropOldest_7 : decode cX4_dropOldest 7 = .ok (.iconst 1, 1) := by decide +kernel
theorem dX4_dropOldest_8 : decode cX4_dropOldest 8 = .ok (.istore_n 2, 1) := by decide +kernel
theorem dX4_dropOldest_9 : decode cX4_dropOldest 9 = .ok (.iload_n 2, 1) := by decide +kernel
theorem dX4_dropOldest_10 : decode cX4_dropOldest 10 = .ok (.iconst 5, 1) := by decide +kernel
theorem dX4_dropOldest_11 : decode cX4_dropOldest 11 = .ok (.if_icmp .ge 23, 3) := by decide +kernel
theorem dX4_dropOldest_14 : decode cX4_dropOldest 14 = .ok (.aload_n 0, 1) := by decide +kernel
theorem dX4_dropOldest_15 : decode cX4_dropOldest 15 = .ok (.getfield 11, 3) := by decide +kernel
theorem dX4_dropOldest_18 : decode cX4_dropOldest 18 = .ok (.iload_n 2, 1) := by decide +kernel
theorem dX4_dropOldest_19 : decode cX4_dropOldest 19 = .ok (.iconst 1, 1) := by decide +kernel
theorem dX4_dropOldest_20 : decode cX4_dropOldest 20 = .ok (.isub, 1) := by decide +kernel
theorem dX4_dropOldest_21 : decode cX4_dropOldest 21 = .ok (.aload_n 0, 1) := by decide +kernel
theorem dX4_dropOldest_22 : decode cX4_dropOldest 22 = .ok (.getfield 11, 3) := by decide +kernel
theorem dX4_dropOldest_25 : decode cX4_dropOldest 25 = .ok (.iload_n 2, 1) := by decide +kernel
theorem dX4_dropOldest_26 : decode cX4_dropOldest 26 = .ok (.aaload, 1) := by decide +kernel
theorem dX4_dropOldest_27 : decode cX4_dropOldest 27 = .ok (.aastore, 1) := by decide +kernel
theorem dX4_dropOldest_28 : decode cX4_dropOldest 28 = .ok (.iinc 2 1, 3) := by decide +kernel
theorem dX4_dropOldest_31 : decode cX4_dropOldest 31 = .ok (.goto (-22), 3) := by decide +kernel
theorem dX4_dropOldest_34 : decode cX4_dropOldest 34 = .ok (.aload_n 0, 1) := by decide +kernel
theorem dX4_dropOldest_35 : decode cX4_dropOldest 35 = .ok (.getfield 11, 3) := by decide +kernel
theorem dX4_dropOldest_38 : decode cX4_dropOldest 38 = .ok (.iconst 4, 1) := by decide +kernel
theorem dX4_dropOldest_39 : decode cX4_dropOldest 39 = .ok (.aload_n 1, 1) := by decide +kernel
theorem dX4_dropOldest_40 : decode cX4_dropOldest 40 = .ok (.aastore, 1) := by decide +kernel
theorem dX4_dropOldest_41 : decode cX4_dropOldest 41 = .ok (.aload_n 0, 1) := by decide +kernel
theorem dX4_dropOldest_42 : decode cX4_dropOldest 42 = .ok (.iconst 4, 1) := by decide +kernel
theorem dX4_dropOldest_43 : decode cX4_dropOldest 43 = .ok (.putfield 18, 3) := by decide +kernel
theorem dX4_dropOldest_46 : decode cX4_dropOldest 46 = .ok (.return_, 1) := by decide +kernel
theorem dX4_restoreInto_0 : decode cX4_restoreInto 0 = .ok (.aload_n 0, 1) := by decide +kernel
theorem dX4_restoreInto_1 : decode cX4_restoreInto 1 = .ok (.getfield 18, 3) := by decide +kernel
theorem dX4_restoreInto_4 : decode cX4_restoreInto 4 = .ok (.ifCond .le 26, 3) := by decide +kernel
theorem dX4_restoreInto_7 : decode cX4_restoreInto 7 = .ok (.aload_n 0, 1) := by decide +kernel
theorem dX4_restoreInto_8 : decode cX4_restoreInto 8 = .ok (.dup, 1) := by decide +kernel
theorem dX4_restoreInto_9 : decode cX4_restoreInto 9 = .ok (.getfield 18, 3) := by decide +kernel
theorem dX4_restoreInto_12 : decode cX4_restoreInto 12 = .ok (.iconst 1, 1) := by decide +kernel
theorem dX4_restoreInto_13 : decode cX4_restoreInto 13 = .ok (.isub, 1) := by decide +kernel
theorem dX4_restoreInto_14 : decode cX4_restoreInto 14 = .ok (.putfield 18, 3) := by decide +kernel
theorem dX4_restoreInto_17 : decode cX4_restoreInto 17 = .ok (.aload_n 1, 1) := by decide +kernel
theorem dX4_restoreInto_18 : decode cX4_restoreInto 18 = .ok (.aload_n 0, 1) := by decide +kernel
theorem dX4_restoreInto_19 : decode cX4_restoreInto 19 = .ok (.getfield 11, 3) := by decide +kernel
theorem dX4_restoreInto_22 : decode cX4_restoreInto 22 = .ok (.aload_n 0, 1) := by decide +kernel
theorem dX4_restoreInto_23 : decode cX4_restoreInto 23 = .ok (.getfield 18, 3) := by decide +kernel
theorem dX4_restoreInto_26 : decode cX4_restoreInto 26 = .ok (.aaload, 1) := by decide +kernel
theorem dX4_restoreInto_27 : decode cX4_restoreInto 27 = .ok (.invokevirtual 25, 3) := by decide +kernel
theorem dX4_restoreInto_30 : decode cX4_restoreInto 30 = .ok (.return_, 1) := by decide +kernel
theorem dX5_init_0 : decode cX5_init 0 = .ok (.aload_n 0, 1) := by decide +kernel
theorem dX5_init_1 : decode cX5_init 1 = .ok (.invokespecial 3, 3) := by decide +kernel
theorem dX5_init_4 : decode cX5_init 4 = .ok (.aload_n 0, 1) := by decide +kernel
theorem dX5_init_5 : decode cX5_init 5 = .ok (.bipush 60, 2) := by decide +kernel
theorem dX5_init_7 : decode cX5_init 7 = .ok (.newarray .int, 2) := by decide +kernel
theorem dX5_init_9 : decode cX5_init 9 = .ok (.putfield 9, 3) := by decide +kernel
theorem dX5_init_12 : decode cX5_init 12 = .ok (.aload_n 0, 1) := by decide +kernel
theorem dX5_init_13 : decode cX5_init 13 = .ok (.bipush 60, 2) := by decide +kernel
theorem dX5_init_15 : decode cX5_init 15 = .ok (.newarray .int, 2) := by decide +kernel
theorem dX5_init_17 : decode cX5_init 17 = .ok (.putfield 15, 3) := by decide +kernel
theorem dX5_init_20 : decode cX5_init 20 = .ok (.aload_n 0, 1) := by decide +kernel
theorem dX5_init_21 : decode cX5_init 21 = .ok (.bipush 60, 2) := by decide +kernel
theorem dX5_init_23 : decode cX5_init 23 = .ok (.newarray .int, 2) := by decide +kernel
theorem dX5_init_25 : decode cX5_init 25 = .ok (.putfield 18, 3) := by decide +kernel
theorem dX5_init_28 : decode cX5_init 28 = .ok (.return_, 1) := by decide +kernel
theorem dX5_copyFrom_0 : decode cX5_copyFrom 0 = .ok (.aload_n 1, 1) := by decide +kernel
theorem dX5_copyFrom_1 : decode cX5_copyFrom 1 = .ok (.getfield 9, 3) := by decide +kernel
theorem dX5_copyFrom_4 : decode cX5_copyFrom 4 = .ok (.aload_n 0, 1) := by decide +kernel
theorem dX5_copyFrom_5 : decode cX5_copyFrom 5 = .ok (.getfield 9, 3) := by decide +kernel
theorem dX5_copyFrom_8 : decode cX5_copyFrom 8 = .ok (.invokestatic 21, 3) := by decide +kernel
theorem dX5_copyFrom_11 : decode cX5_copyFrom 11 = .ok (.aload_n 1, 1) := by decide +kernel
theorem dX5_copyFrom_12 : decode cX5_copyFrom 12 = .ok (.getfield 15, 3) := by decide +kernel
theorem dX5_copyFrom_15 : decode cX5_copyFrom 15 = .ok (.aload_n 0, 1) := by decide +kernel
theorem dX5_copyFrom_16 : decode cX5_copyFrom 16 = .ok (.getfield 15, 3) := by decide +kernel
theorem dX5_copyFrom_19 : decode cX5_copyFrom 19 = .ok (.invokestatic 21, 3) := by decide +kernel
theorem dX5_copyFrom_22 : decode cX5_copyFrom 22 = .ok (.aload_n 1, 1) := by decide +kernel
theorem dX5_copyFrom_23 : decode cX5_copyFrom 23 = .ok (.getfield 18, 3) := by decide +kernel
theorem dX5_copyFrom_26 : decode cX5_copyFrom 26 = .ok (.aload_n 0, 1) := by decide +kernel
theorem dX5_copyFrom_27 : decode cX5_copyFrom 27 = .ok (.getfield 18, 3) := by decide +kernel
theorem dX5_copyFrom_30 : decode cX5_copyFrom 30 = .ok (.invokestatic 21, 3) := by decide +kernel
theorem dX5_copyFrom_33 : decode cX5_copyFrom 33 = .ok (.aload_n 0, 1) := by decide +kernel
theorem dX5_copyFrom_34 : decode cX5_copyFrom 34 = .ok (.aload_n 1, 1) := by decide +kernel
theorem dX5_copyFrom_35 : decode cX5_copyFrom 35 = .ok (.getfield 25, 3) := by decide +kernel
theorem dX5_copyFrom_38 : decode cX5_copyFrom 38 = .ok (.putfield 25, 3) := by decide +kernel
theorem dX5_copyFrom_41 : decode cX5_copyFrom 41 = .ok (.return_, 1) := by decide +kernel
theorem dX5_has_0 : decode cX5_has 0 = .ok (.iload_n 1, 1) := by decide +kernel
theorem dX5_has_1 : decode cX5_has 1 = .ok (.ifCond .lt 15, 3) := by decide +kernel
theorem dX5_has_4 : decode cX5_has 4 = .ok (.iload_n 1, 1) := by decide +kernel
theorem dX5_has_5 : decode cX5_has 5 = .ok (.aload_n 0, 1) := by decide +kernel
theorem dX5_has_6 : decode cX5_has 6 = .ok (.getfield 25, 3) := by decide +kernel
theorem dX5_has_9 : decode cX5_has 9 = .ok (.if_icmp .ge 7, 3) := by decide +kernel
theorem dX5_has_12 : decode cX5_has 12 = .ok (.iconst 1, 1) := by decide +kernel
theorem dX5_has_13 : decode cX5_has 13 = .ok (.goto 4, 3) := by decide +kernel
theorem dX5_has_16 : decode cX5_has 16 = .ok (.iconst 0, 1) := by decide +kernel
theorem dX5_has_17 : decode cX5_has 17 = .ok (.ireturn, 1) := by decide +kernel
theorem dX5_append_0 : decode cX5_append 0 = .ok (.aload_n 0, 1) := by decide +kernel
theorem dX5_append_1 : decode cX5_append 1 = .ok (.getfield 25, 3) := by decide +kernel
theorem dX5_append_4 : decode cX5_append 4 = .ok (.bipush 60, 2) := by decide +kernel
theorem dX5_append_6 : decode cX5_append 6 = .ok (.if_icmp .lt 7, 3) := by decide +kernel
theorem dX5_append_9 : decode cX5_append 9 = .ok (.aload_n 0, 1) := by decide +kernel
theorem dX5_append_10 : decode cX5_append 10 = .ok (.invokevirtual 29, 3) := by decide +kernel
theorem dX5_append_13 : decode cX5_append 13 = .ok (.aload_n 0, 1) := by decide +kernel
theorem dX5_append_14 : decode cX5_append 14 = .ok (.getfield 9, 3) := by decide +kernel
theorem dX5_append_17 : decode cX5_append 17 = .ok (.aload_n 0, 1) := by decide +kernel
theorem dX5_append_18 : decode cX5_append 18 = .ok (.getfield 25, 3) := by decide +kernel
theorem dX5_append_21 : decode cX5_append 21 = .ok (.iload_n 1, 1) := by decide +kernel
theorem dX5_append_22 : decode cX5_append 22 = .ok (.iastore, 1) := by decide +kernel
theorem dX5_append_23 : decode cX5_append 23 = .ok (.aload_n 0, 1) := by decide +kernel
theorem dX5_append_24 : decode cX5_append 24 = .ok (.getfield 15, 3) := by decide +kernel
theorem dX5_append_27 : decode cX5_append 27 = .ok (.aload_n 0, 1) := by decide +kernel
theorem dX5_append_28 : decode cX5_append 28 = .ok (.getfield 25, 3) := by decide +kernel
theorem dX5_append_31 : decode cX5_append 31 = .ok (.iload_n 2, 1) := by decide +kernel
theorem dX5_append_32 : decode cX5_append 32 = .ok (.iastore, 1) := by decide +kernel
theorem dX5_append_33 : decode cX5_append 33 = .ok (.aload_n 0, 1) := by decide +kernel
theorem dX5_append_34 : decode cX5_append 34 = .ok (.getfield 18, 3) := by decide +kernel
theorem dX5_append_37 : decode cX5_append 37 = .ok (.aload_n 0, 1) := by decide +kernel
theorem dX5_append_38 : decode cX5_append 38 = .ok (.getfield 25, 3) := by decide +kernel
theorem dX5_append_41 : decode cX5_append 41 = .ok (.iload_n 3, 1) := by decide +kernel
theorem dX5_append_42 : decode cX5_append 42 = .ok (.iastore, 1) := by decide +kernel
theorem dX5_append_43 : decode cX5_append 43 = .ok (.aload_n 0, 1) := by decide +kernel
theorem dX5_append_44 : decode cX5_append 44 = .ok (.dup, 1) := by decide +kernel
theorem dX5_append_45 : decode cX5_append 45 = .ok (.getfield 25, 3) := by decide +kernel
theorem dX5_append_48 : decode cX5_append 48 = .ok (.iconst 1, 1) := by decide +kernel
theorem dX5_append_49 : decode cX5_append 49 = .ok (.iadd, 1) := by decide +kernel
theorem dX5_append_50 : decode cX5_append 50 = .ok (.putfield 25, 3) := by decide +kernel
theorem dX5_append_53 : decode cX5_append 53 = .ok (.return_, 1) := by decide +kernel
theorem dX5_removeOldest_0 : decode cX5_removeOldest 0 = .ok (.aload_n 0, 1) := by decide +kernel
theorem dX5_removeOldest_1 : decode cX5_removeOldest 1 = .ok (.bipush 59, 2) := by decide +kernel
theorem dX5_removeOldest_3 : decode cX5_removeOldest 3 = .ok (.putfield 25, 3) := by decide +kernel
theorem dX5_removeOldest_6 : decode cX5_removeOldest 6 = .ok (.aload_n 0, 1) := by decide +kernel
theorem dX5_removeOldest_7 : decode cX5_removeOldest 7 = .ok (.getfield 9, 3) := by decide +kernel
theorem dX5_removeOldest_10 : decode cX5_removeOldest 10 = .ok (.iconst 1, 1) := by decide +kernel
theorem dX5_removeOldest_11 : decode cX5_removeOldest 11 = .ok (.aload_n 0, 1) := by decide +kernel
theorem dX5_removeOldest_12 : decode cX5_removeOldest 12 = .ok (.getfield 9, 3) := by decide +kernel
theorem dX5_removeOldest_15 : decode cX5_removeOldest 15 = .ok (.iconst 0, 1) := by decide +kernel
theorem dX5_removeOldest_16 : decode cX5_removeOldest 16 = .ok (.aload_n 0, 1) := by decide +kernel
theorem dX5_removeOldest_17 : decode cX5_removeOldest 17 = .ok (.getfield 25, 3) := by decide +kernel
theorem dX5_removeOldest_20 : decode cX5_removeOldest 20 = .ok (.invokestatic 32, 3) := by decide +kernel
theorem dX5_removeOldest_23 : decode cX5_removeOldest 23 = .ok (.aload_n 0, 1) := by decide +kernel
theorem dX5_removeOldest_24 : decode cX5_removeOldest 24 = .ok (.getfield 15, 3) := by decide +kernel
theorem dX5_removeOldest_27 : decode cX5_removeOldest 27 = .ok (.iconst 1, 1) := by decide +kernel
theorem dX5_removeOldest_28 : decode cX5_removeOldest 28 = .ok (.aload_n 0, 1) := by decide +kernel
theorem dX5_removeOldest_29 : decode cX5_removeOldest 29 = .ok (.getfield 15, 3) := by decide +kernel
theorem dX5_removeOldest_32 : decode cX5_removeOldest 32 = .ok (.iconst 0, 1) := by decide +kernel
theorem dX5_removeOldest_33 : decode cX5_removeOldest 33 = .ok (.aload_n 0, 1) := by decide +kernel
theorem dX5_removeOldest_34 : decode cX5_removeOldest 34 = .ok (.getfield 25, 3) := by decide +kernel
theorem dX5_removeOldest_37 : decode cX5_removeOldest 37 = .ok (.invokestatic 32, 3) := by decide +kernel
theorem dX5_removeOldest_40 : decode cX5_removeOldest 40 = .ok (.aload_n 0, 1) := by decide +kernel
theorem dX5_removeOldest_41 : decode cX5_removeOldest 41 = .ok (.getfield 18, 3) := by decide +kernel
theorem dX5_removeOldest_44 : decode cX5_removeOldest 44 = .ok (.iconst 1, 1) := by decide +kernel
theorem dX5_removeOldest_45 : decode cX5_removeOldest 45 = .ok (.aload_n 0, 1) := by decide +kernel
theorem dX5_removeOldest_46 : decode cX5_removeOldest 46 = .ok (.getfield 18, 3) := by decide +kernel
theorem dX5_removeOldest_49 : decode cX5_removeOldest 49 = .ok (.iconst 0, 1) := by decide +kernel
theorem dX5_removeOldest_50 : decode cX5_removeOldest 50 = .ok (.aload_n 0, 1) := by decide +kernel
theorem dX5_removeOldest_51 : decode cX5_removeOldest 51 = .ok (.getfield 25, 3) := by decide +kernel
theorem dX5_removeOldest_54 : decode cX5_removeOldest 54 = .ok (.invokestatic 32, 3) := by decide +kernel
theorem dX5_removeOldest_57 : decode cX5_removeOldest 57 = .ok (.return_, 1) := by decide +kernel
theorem dX5_ticksBetween_0 : decode cX5_ticksBetween 0 = .ok (.aload_n 0, 1) := by decide +kernel
theorem dX5_ticksBetween_1 : decode cX5_ticksBetween 1 = .ok (.iload_n 1, 1) := by decide +kernel
theorem dX5_ticksBetween_2 : decode cX5_ticksBetween 2 = .ok (.invokevirtual 38, 3) := by decide +kernel
theorem dX5_ticksBetween_5 : decode cX5_ticksBetween 5 = .ok (.ifCond .eq 27, 3) := by decide +kernel
theorem dX5_ticksBetween_8 : decode cX5_ticksBetween 8 = .ok (.aload_n 0, 1) := by decide +kernel
theorem dX5_ticksBetween_9 : decode cX5_ticksBetween 9 = .ok (.iload_n 2, 1) := by decide +kernel
theorem dX5_ticksBetween_10 : decode cX5_ticksBetween 10 = .ok (.invokevirtual 38, 3) := by decide +kernel
theorem dX5_ticksBetween_13 : decode cX5_ticksBetween 13 = .ok (.ifCond .eq 19, 3) := by decide +kernel
theorem dX5_ticksBetween_16 : decode cX5_ticksBetween 16 = .ok (.aload_n 0, 1) := by decide +kernel
theorem dX5_ticksBetween_17 : decode cX5_ticksBetween 17 = .ok (.getfield 9, 3) := by decide +kernel
theorem dX5_ticksBetween_20 : decode cX5_ticksBetween 20 = .ok (.iload_n 2, 1) := by decide +kernel
theorem dX5_ticksBetween_21 : decode cX5_ticksBetween 21 = .ok (.iaload, 1) := by decide +kernel
theorem dX5_ticksBetween_22 : decode cX5_ticksBetween 22 = .ok (.aload_n 0, 1) := by decide +kernel
theorem dX5_ticksBetween_23 : decode cX5_ticksBetween 23 = .ok (.getfield 9, 3) := by decide +kernel
theorem dX5_ticksBetween_26 : decode cX5_ticksBetween 26 = .ok (.iload_n 1, 1) := by decide +kernel
theorem dX5_ticksBetween_27 : decode cX5_ticksBetween 27 = .ok (.iaload, 1) := by decide +kernel
theorem dX5_ticksBetween_28 : decode cX5_ticksBetween 28 = .ok (.isub, 1) := by decide +kernel
theorem dX5_ticksBetween_29 : decode cX5_ticksBetween 29 = .ok (.goto 4, 3) := by decide +kernel
theorem dX5_ticksBetween_32 : decode cX5_ticksBetween 32 = .ok (.iconst 0, 1) := by decide +kernel
theorem dX5_ticksBetween_33 : decode cX5_ticksBetween 33 = .ok (.ireturn, 1) := by decide +kernel
theorem dX5_widestGap_0 : decode cX5_widestGap 0 = .ok (.iconst 0, 1) := by decide +kernel
theorem dX5_widestGap_1 : decode cX5_widestGap 1 = .ok (.istore_n 1, 1) := by decide +kernel
theorem dX5_widestGap_2 : decode cX5_widestGap 2 = .ok (.iconst 1, 1) := by decide +kernel
theorem dX5_widestGap_3 : decode cX5_widestGap 3 = .ok (.istore_n 2, 1) := by decide +kernel
theorem dX5_widestGap_4 : decode cX5_widestGap 4 = .ok (.iload_n 2, 1) := by decide +kernel
theorem dX5_widestGap_5 : decode cX5_widestGap 5 = .ok (.aload_n 0, 1) := by decide +kernel
theorem dX5_widestGap_6 : decode cX5_widestGap 6 = .ok (.getfield 25, 3) := by decide +kernel
theorem dX5_widestGap_9 : decode cX5_widestGap 9 = .ok (.if_icmp .ge 22, 3) := by decide +kernel
theorem dX5_widestGap_12 : decode cX5_widestGap 12 = .ok (.iload_n 1, 1) := by decide +kernel
theorem dX5_widestGap_13 : decode cX5_widestGap 13 = .ok (.aload_n 0, 1) := by decide +kernel
theorem dX5_widestGap_14 : decode cX5_widestGap 14 = .ok (.iload_n 2, 1) := by decide +kernel
theorem dX5_widestGap_15 : decode cX5_widestGap 15 = .ok (.iconst 1, 1) := by decide +kernel
theorem dX5_widestGap_16 : decode cX5_widestGap 16 = .ok (.isub, 1) := by decide +kernel
theorem dX5_widestGap_17 : decode cX5_widestGap 17 = .ok (.iload_n 2, 1) := by decide +kernel
theorem dX5_widestGap_18 : decode cX5_widestGap 18 = .ok (.invokevirtual 42, 3) := by decide +kernel
theorem dX5_widestGap_21 : decode cX5_widestGap 21 = .ok (.invokestatic 46, 3) := by decide +kernel
theorem dX5_widestGap_24 : decode cX5_widestGap 24 = .ok (.istore_n 1, 1) := by decide +kernel
theorem dX5_widestGap_25 : decode cX5_widestGap 25 = .ok (.iinc 2 1, 3) := by decide +kernel
theorem dX5_widestGap_28 : decode cX5_widestGap 28 = .ok (.goto (-24), 3) := by decide +kernel
theorem dX5_widestGap_31 : decode cX5_widestGap 31 = .ok (.iload_n 1, 1) := by decide +kernel
theorem dX5_widestGap_32 : decode cX5_widestGap 32 = .ok (.ireturn, 1) := by decide +kernel
theorem dX5_beginsStorm_0 : decode cX5_beginsStorm 0 = .ok (.iload_n 1, 1) := by decide +kernel
theorem dX5_beginsStorm_1 : decode cX5_beginsStorm 1 = .ok (.ifCond .eq 15, 3) := by decide +kernel
theorem dX5_beginsStorm_4 : decode cX5_beginsStorm 4 = .ok (.aload_n 0, 1) := by decide +kernel
theorem dX5_beginsStorm_5 : decode cX5_beginsStorm 5 = .ok (.iload_n 1, 1) := by decide +kernel
theorem dX5_beginsStorm_6 : decode cX5_beginsStorm 6 = .ok (.iconst 1, 1) := by decide +kernel
theorem dX5_beginsStorm_7 : decode cX5_beginsStorm 7 = .ok (.isub, 1) := by decide +kernel
theorem dX5_beginsStorm_8 : decode cX5_beginsStorm 8 = .ok (.iload_n 1, 1) := by decide +kernel
theorem dX5_beginsStorm_9 : decode cX5_beginsStorm 9 = .ok (.invokevirtual 42, 3) := by decide +kernel
theorem dX5_beginsStorm_12 : decode cX5_beginsStorm 12 = .ok (.iload_n 2, 1) := by decide +kernel
theorem dX5_beginsStorm_13 : decode cX5_beginsStorm 13 = .ok (.if_icmp .le 7, 3) := by decide +kernel
theorem dX5_beginsStorm_16 : decode cX5_beginsStorm 16 = .ok (.iconst 1, 1) := by decide +kernel
theorem dX5_beginsStorm_17 : decode cX5_beginsStorm 17 = .ok (.goto 4, 3) := by decide +kernel
theorem dX5_beginsStorm_20 : decode cX5_beginsStorm 20 = .ok (.iconst 0, 1) := by decide +kernel
theorem dX5_beginsStorm_21 : decode cX5_beginsStorm 21 = .ok (.ireturn, 1) := by decide +kernel
theorem dX5_countStorms_0 : decode cX5_countStorms 0 = .ok (.iconst 0, 1) := by decide +kernel
theorem dX5_countStorms_1 : decode cX5_countStorms 1 = .ok (.istore_n 2, 1) := by decide +kernel
theorem dX5_countStorms_2 : decode cX5_countStorms 2 = .ok (.iconst 0, 1) := by decide +kernel
theorem dX5_countStorms_3 : decode cX5_countStorms 3 = .ok (.istore_n 3, 1) := by decide +kernel
theorem dX5_countStorms_4 : decode cX5_countStorms 4 = .ok (.iload_n 3, 1) := by decide +kernel
theorem dX5_countStorms_5 : decode cX5_countStorms 5 = .ok (.aload_n 0, 1) := by decide +kernel
theorem dX5_countStorms_6 : decode cX5_countStorms 6 = .ok (.getfield 25, 3) := by decide +kernel
theorem dX5_countStorms_9 : decode cX5_countStorms 9 = .ok (.if_icmp .ge 21, 3) := by decide +kernel
theorem dX5_countStorms_12 : decode cX5_countStorms 12 = .ok (.aload_n 0, 1) := by decide +kernel
theorem dX5_countStorms_13 : decode cX5_countStorms 13 = .ok (.iload_n 3, 1) := by decide +kernel
theorem dX5_countStorms_14 : decode cX5_countStorms 14 = .ok (.iload_n 1, 1) := by decide +kernel
theorem dX5_countStorms_15 : decode cX5_countStorms 15 = .ok (.invokevirtual 51, 3) := by decide +kernel
theorem dX5_countStorms_18 : decode cX5_countStorms 18 = .ok (.ifCond .eq 6, 3) := by decide +kernel
theorem dX5_countStorms_21 : decode cX5_countStorms 21 = .ok (.iinc 2 1, 3) := by decide +kernel
theorem dX5_countStorms_24 : decode cX5_countStorms 24 = .ok (.iinc 3 1, 3) := by decide +kernel
theorem dX5_countStorms_27 : decode cX5_countStorms 27 = .ok (.goto (-23), 3) := by decide +kernel
theorem dX5_countStorms_30 : decode cX5_countStorms 30 = .ok (.iload_n 2, 1) := by decide +kernel
theorem dX5_countStorms_31 : decode cX5_countStorms 31 = .ok (.ireturn, 1) := by decide +kernel
theorem dX5_firstOfStorm_0 : decode cX5_firstOfStorm 0 = .ok (.iconst 0, 1) := by decide +kernel
theorem dX5_firstOfStorm_1 : decode cX5_firstOfStorm 1 = .ok (.istore_n 3, 1) := by decide +kernel
theorem dX5_firstOfStorm_2 : decode cX5_firstOfStorm 2 = .ok (.iconst 0, 1) := by decide +kernel
theorem dX5_firstOfStorm_3 : decode cX5_firstOfStorm 3 = .ok (.istore 4, 2) := by decide +kernel
theorem dX5_firstOfStorm_5 : decode cX5_firstOfStorm 5 = .ok (.iload 4, 2) := by decide +kernel
theorem dX5_firstOfStorm_7 : decode cX5_firstOfStorm 7 = .ok (.aload_n 0, 1) := by decide +kernel
theorem dX5_firstOfStorm_8 : decode cX5_firstOfStorm 8 = .ok (.getfield 25, 3) := by decide +kernel
theorem dX5_firstOfStorm_11 : decode cX5_firstOfStorm 11 = .ok (.if_icmp .ge 30, 3) := by decide +kernel
theorem dX5_firstOfStorm_14 : decode cX5_firstOfStorm 14 = .ok (.aload_n 0, 1) := by decide +kernel
theorem dX5_firstOfStorm_15 : decode cX5_firstOfStorm 15 = .ok (.iload 4, 2) := by decide +kernel
theorem dX5_firstOfStorm_17 : decode cX5_firstOfStorm 17 = .ok (.iload_n 2, 1) := by decide +kernel
theorem dX5_firstOfStorm_18 : decode cX5_firstOfStorm 18 = .ok (.invokevirtual 51, 3) := by decide +kernel
theorem dX5_firstOfStorm_21 : decode cX5_firstOfStorm 21 = .ok (.ifCond .eq 14, 3) := by decide +kernel
theorem dX5_firstOfStorm_24 : decode cX5_firstOfStorm 24 = .ok (.iload_n 3, 1) := by decide +kernel
theorem dX5_firstOfStorm_25 : decode cX5_firstOfStorm 25 = .ok (.iload_n 1, 1) := by decide +kernel
theorem dX5_firstOfStorm_26 : decode cX5_firstOfStorm 26 = .ok (.if_icmp .ne 6, 3) := by decide +kernel
theorem dX5_firstOfStorm_29 : decode cX5_firstOfStorm 29 = .ok (.iload 4, 2) := by decide +kernel
theorem dX5_firstOfStorm_31 : decode cX5_firstOfStorm 31 = .ok (.ireturn, 1) := by decide +kernel
theorem dX5_firstOfStorm_32 : decode cX5_firstOfStorm 32 = .ok (.iinc 3 1, 3) := by decide +kernel
theorem dX5_firstOfStorm_35 : decode cX5_firstOfStorm 35 = .ok (.iinc 4 1, 3) := by decide +kernel
theorem dX5_firstOfStorm_38 : decode cX5_firstOfStorm 38 = .ok (.goto (-33), 3) := by decide +kernel
theorem dX5_firstOfStorm_41 : decode cX5_firstOfStorm 41 = .ok (.iconst (-1), 1) := by decide +kernel
theorem dX5_firstOfStorm_42 : decode cX5_firstOfStorm 42 = .ok (.ireturn, 1) := by decide +kernel
theorem dX5_endOfStorm_0 : decode cX5_endOfStorm 0 = .ok (.iload_n 1, 1) := by decide +kernel
theorem dX5_endOfStorm_1 : decode cX5_endOfStorm 1 = .ok (.iconst 1, 1) := by decide +kernel
theorem dX5_endOfStorm_2 : decode cX5_endOfStorm 2 = .ok (.iadd, 1) := by decide +kernel
theorem dX5_endOfStorm_3 : decode cX5_endOfStorm 3 = .ok (.istore_n 3, 1) := by decide +kernel
theorem dX5_endOfStorm_4 : decode cX5_endOfStorm 4 = .ok (.iload_n 3, 1) := by decide +kernel
theorem dX5_endOfStorm_5 : decode cX5_endOfStorm 5 = .ok (.aload_n 0, 1) := by decide +kernel
theorem dX5_endOfStorm_6 : decode cX5_endOfStorm 6 = .ok (.getfield 25, 3) := by decide +kernel
theorem dX5_endOfStorm_9 : decode cX5_endOfStorm 9 = .ok (.if_icmp .ge 20, 3) := by decide +kernel
theorem dX5_endOfStorm_12 : decode cX5_endOfStorm 12 = .ok (.aload_n 0, 1) := by decide +kernel
theorem dX5_endOfStorm_13 : decode cX5_endOfStorm 13 = .ok (.iload_n 3, 1) := by decide +kernel
theorem dX5_endOfStorm_14 : decode cX5_endOfStorm 14 = .ok (.iload_n 2, 1) := by decide +kernel
theorem dX5_endOfStorm_15 : decode cX5_endOfStorm 15 = .ok (.invokevirtual 51, 3) := by decide +kernel
theorem dX5_endOfStorm_18 : decode cX5_endOfStorm 18 = .ok (.ifCond .eq 5, 3) := by decide +kernel
theorem dX5_endOfStorm_21 : decode cX5_endOfStorm 21 = .ok (.iload_n 3, 1) := by decide +kernel
theorem dX5_endOfStorm_22 : decode cX5_endOfStorm 22 = .ok (.ireturn, 1) := by decide +kernel
theorem dX5_endOfStorm_23 : decode cX5_endOfStorm 23 = .ok (.iinc 3 1, 3) := by decide +kernel
theorem dX5_endOfStorm_26 : decode cX5_endOfStorm 26 = .ok (.goto (-22), 3) := by decide +kernel
theorem dX5_endOfStorm_29 : decode cX5_endOfStorm 29 = .ok (.aload_n 0, 1) := by decide +kernel
theorem dX5_endOfStorm_30 : decode cX5_endOfStorm 30 = .ok (.getfield 25, 3) := by decide +kernel
theorem dX5_endOfStorm_33 : decode cX5_endOfStorm 33 = .ok (.ireturn, 1) := by decide +kernel
theorem dX5_lossBetweenTips_0 : decode cX5_lossBetweenTips 0 = .ok (.iconst 0, 1) := by decide +kernel
theorem dX5_lossBetweenTips_1 : decode cX5_lossBetweenTips 1 = .ok (.istore 4, 2) := by decide +kernel
theorem dX5_lossBetweenTips_3 : decode cX5_lossBetweenTips 3 = .ok (.iload_n 1, 1) := by decide +kernel
theorem dX5_lossBetweenTips_4 : decode cX5_lossBetweenTips 4 = .ok (.iconst 1, 1) := by decide +kernel
theorem dX5_lossBetweenTips_5 : decode cX5_lossBetweenTips 5 = .ok (.iadd, 1) := by decide +kernel
theorem dX5_lossBetweenTips_6 : decode cX5_lossBetweenTips 6 = .ok (.istore 5, 2) := by decide +kernel
theorem dX5_lossBetweenTips_8 : decode cX5_lossBetweenTips 8 = .ok (.iload 5, 2) := by decide +kernel
theorem dX5_lossBetweenTips_10 : decode cX5_lossBetweenTips 10 = .ok (.iload_n 2, 1) := by decide +kernel
theorem dX5_lossBetweenTips_11 : decode cX5_lossBetweenTips 11 = .ok (.if_icmp .ge 28, 3) := by decide +kernel
theorem dX5_lossBetweenTips_14 : decode cX5_lossBetweenTips 14 = .ok (.iload 4, 2) := by decide +kernel
theorem dX5_lossBetweenTips_16 : decode cX5_lossBetweenTips 16 = .ok (.iload_n 3, 1) := by decide +kernel
theorem dX5_lossBetweenTips_17 : decode cX5_lossBetweenTips 17 = .ok (.aload_n 0, 1) := by decide +kernel
theorem dX5_lossBetweenTips_18 : decode cX5_lossBetweenTips 18 = .ok (.iload 5, 2) := by decide +kernel
theorem dX5_lossBetweenTips_20 : decode cX5_lossBetweenTips 20 = .ok (.iconst 1, 1) := by decide +kernel
theorem dX5_lossBetweenTips_21 : decode cX5_lossBetweenTips 21 = .ok (.isub, 1) := by decide +kernel
theorem dX5_lossBetweenTips_22 : decode cX5_lossBetweenTips 22 = .ok (.iload 5, 2) := by decide +kernel
theorem dX5_lossBetweenTips_24 : decode cX5_lossBetweenTips 24 = .ok (.invokevirtual 42, 3) := by decide +kernel
theorem dX5_lossBetweenTips_27 : decode cX5_lossBetweenTips 27 = .ok (.invokestatic 55, 3) := by decide +kernel
theorem dX5_lossBetweenTips_30 : decode cX5_lossBetweenTips 30 = .ok (.iadd, 1) := by decide +kernel
theorem dX5_lossBetweenTips_31 : decode cX5_lossBetweenTips 31 = .ok (.istore 4, 2) := by decide +kernel
theorem dX5_lossBetweenTips_33 : decode cX5_lossBetweenTips 33 = .ok (.iinc 5 1, 3) := by decide +kernel
theorem dX5_lossBetweenTips_36 : decode cX5_lossBetweenTips 36 = .ok (.goto (-28), 3) := by decide +kernel
theorem dX5_lossBetweenTips_39 : decode cX5_lossBetweenTips 39 = .ok (.iload 4, 2) := by decide +kernel
theorem dX5_lossBetweenTips_41 : decode cX5_lossBetweenTips 41 = .ok (.ireturn, 1) := by decide +kernel
theorem dX5_peak_0 : decode cX5_peak 0 = .ok (.iconst 0, 1) := by decide +kernel
theorem dX5_peak_1 : decode cX5_peak 1 = .ok (.istore_n 3, 1) := by decide +kernel
theorem dX5_peak_2 : decode cX5_peak 2 = .ok (.iload_n 1, 1) := by decide +kernel
theorem dX5_peak_3 : decode cX5_peak 3 = .ok (.istore 4, 2) := by decide +kernel
theorem dX5_peak_5 : decode cX5_peak 5 = .ok (.iload_n 1, 1) := by decide +kernel
theorem dX5_peak_6 : decode cX5_peak 6 = .ok (.istore 5, 2) := by decide +kernel
theorem dX5_peak_8 : decode cX5_peak 8 = .ok (.iload 5, 2) := by decide +kernel
theorem dX5_peak_10 : decode cX5_peak 10 = .ok (.iload_n 2, 1) := by decide +kernel
theorem dX5_peak_11 : decode cX5_peak 11 = .ok (.if_icmp .ge 47, 3) := by decide +kernel
theorem dX5_peak_14 : decode cX5_peak 14 = .ok (.iload 4, 2) := by decide +kernel
theorem dX5_peak_16 : decode cX5_peak 16 = .ok (.iload 5, 2) := by decide +kernel
theorem dX5_peak_18 : decode cX5_peak 18 = .ok (.if_icmp .ge 22, 3) := by decide +kernel
theorem dX5_peak_21 : decode cX5_peak 21 = .ok (.aload_n 0, 1) := by decide +kernel
theorem dX5_peak_22 : decode cX5_peak 22 = .ok (.iload 4, 2) := by decide +kernel
theorem dX5_peak_24 : decode cX5_peak 24 = .ok (.iload 5, 2) := by decide +kernel
theorem dX5_peak_26 : decode cX5_peak 26 = .ok (.invokevirtual 42, 3) := by decide +kernel
theorem dX5_peak_29 : decode cX5_peak 29 = .ok (.bipush 30, 2) := by decide +kernel
theorem dX5_peak_31 : decode cX5_peak 31 = .ok (.if_icmp .lt 9, 3) := by decide +kernel
theorem dX5_peak_34 : decode cX5_peak 34 = .ok (.iinc 4 1, 3) := by decide +kernel
theorem dX5_peak_37 : decode cX5_peak 37 = .ok (.goto (-23), 3) := by decide +kernel
theorem dX5_peak_40 : decode cX5_peak 40 = .ok (.iload_n 3, 1) := by decide +kernel
theorem dX5_peak_41 : decode cX5_peak 41 = .ok (.iload 5, 2) := by decide +kernel
theorem dX5_peak_43 : decode cX5_peak 43 = .ok (.iload 4, 2) := by decide +kernel
theorem dX5_peak_45 : decode cX5_peak 45 = .ok (.isub, 1) := by decide +kernel
theorem dX5_peak_46 : decode cX5_peak 46 = .ok (.iconst 1, 1) := by decide +kernel
theorem dX5_peak_47 : decode cX5_peak 47 = .ok (.iadd, 1) := by decide +kernel
theorem dX5_peak_48 : decode cX5_peak 48 = .ok (.invokestatic 46, 3) := by decide +kernel
theorem dX5_peak_51 : decode cX5_peak 51 = .ok (.istore_n 3, 1) := by decide +kernel
theorem dX5_peak_52 : decode cX5_peak 52 = .ok (.iinc 5 1, 3) := by decide +kernel
theorem dX5_peak_55 : decode cX5_peak 55 = .ok (.goto (-47), 3) := by decide +kernel
theorem dX5_peak_58 : decode cX5_peak 58 = .ok (.iload_n 3, 1) := by decide +kernel
theorem dX5_peak_59 : decode cX5_peak 59 = .ok (.ireturn, 1) := by decide +kernel
theorem dX6_init_0 : decode cX6_init 0 = .ok (.aload_n 0, 1) := by decide +kernel
theorem dX6_init_1 : decode cX6_init 1 = .ok (.invokespecial 3, 3) := by decide +kernel
theorem dX6_init_4 : decode cX6_init 4 = .ok (.aload_n 0, 1) := by decide +kernel
theorem dX6_init_5 : decode cX6_init 5 = .ok (.sipush 1000, 3) := by decide +kernel
theorem dX6_init_8 : decode cX6_init 8 = .ok (.newarray .int, 2) := by decide +kernel
theorem dX6_init_10 : decode cX6_init 10 = .ok (.putfield 9, 3) := by decide +kernel
theorem dX6_init_13 : decode cX6_init 13 = .ok (.aload_n 0, 1) := by decide +kernel
theorem dX6_init_14 : decode cX6_init 14 = .ok (.sipush 1000, 3) := by decide +kernel
theorem dX6_init_17 : decode cX6_init 17 = .ok (.newarray .boolean, 2) := by decide +kernel
theorem dX6_init_19 : decode cX6_init 19 = .ok (.putfield 15, 3) := by decide +kernel
theorem dX6_init_22 : decode cX6_init 22 = .ok (.return_, 1) := by decide +kernel
theorem dX6_lookAhead_0 : decode cX6_lookAhead 0 = .ok (.aload_n 0, 1) := by decide +kernel
theorem dX6_lookAhead_1 : decode cX6_lookAhead 1 = .ok (.iload_n 2, 1) := by decide +kernel
theorem dX6_lookAhead_2 : decode cX6_lookAhead 2 = .ok (.sipush 1000, 3) := by decide +kernel
theorem dX6_lookAhead_5 : decode cX6_lookAhead 5 = .ok (.invokestatic 19, 3) := by decide +kernel
theorem dX6_lookAhead_8 : decode cX6_lookAhead 8 = .ok (.putfield 25, 3) := by decide +kernel
theorem dX6_lookAhead_11 : decode cX6_lookAhead 11 = .ok (.iconst 0, 1) := by decide +kernel
theorem dX6_lookAhead_12 : decode cX6_lookAhead 12 = .ok (.istore_n 3, 1) := by decide +kernel
theorem dX6_lookAhead_13 : decode cX6_lookAhead 13 = .ok (.iload_n 3, 1) := by decide +kernel
theorem dX6_lookAhead_14 : decode cX6_lookAhead 14 = .ok (.aload_n 0, 1) := by decide +kernel
theorem dX6_lookAhead_15 : decode cX6_lookAhead 15 = .ok (.getfield 25, 3) := by decide +kernel
theorem dX6_lookAhead_18 : decode cX6_lookAhead 18 = .ok (.if_icmp .ge 67, 3) := by decide +kernel
theorem dX6_lookAhead_21 : decode cX6_lookAhead 21 = .ok (.aload_n 1, 1) := by decide +kernel
theorem dX6_lookAhead_22 : decode cX6_lookAhead 22 = .ok (.getfield 29, 3) := by decide +kernel
theorem dX6_lookAhead_25 : decode cX6_lookAhead 25 = .ok (.aload_n 1, 1) := by decide +kernel
theorem dX6_lookAhead_26 : decode cX6_lookAhead 26 = .ok (.getfield 35, 3) := by decide +kernel
theorem dX6_lookAhead_29 : decode cX6_lookAhead 29 = .ok (.iload_n 3, 1) := by decide +kernel
theorem dX6_lookAhead_30 : decode cX6_lookAhead 30 = .ok (.iadd, 1) := by decide +kernel
theorem dX6_lookAhead_31 : decode cX6_lookAhead 31 = .ok (.invokevirtual 38, 3) := by decide +kernel
theorem dX6_lookAhead_34 : decode cX6_lookAhead 34 = .ok (.istore 4, 2) := by decide +kernel
theorem dX6_lookAhead_36 : decode cX6_lookAhead 36 = .ok (.aload_n 0, 1) := by decide +kernel
theorem dX6_lookAhead_37 : decode cX6_lookAhead 37 = .ok (.getfield 9, 3) := by decide +kernel
theorem dX6_lookAhead_40 : decode cX6_lookAhead 40 = .ok (.iload_n 3, 1) := by decide +kernel
theorem dX6_lookAhead_41 : decode cX6_lookAhead 41 = .ok (.aload_n 1, 1) := by decide +kernel
theorem dX6_lookAhead_42 : decode cX6_lookAhead 42 = .ok (.getfield 44, 3) := by decide +kernel
theorem dX6_lookAhead_45 : decode cX6_lookAhead 45 = .ok (.iload 4, 2) := by decide +kernel
theorem dX6_lookAhead_47 : decode cX6_lookAhead 47 = .ok (.aload_n 1, 1) := by decide +kernel
theorem dX6_lookAhead_48 : decode cX6_lookAhead 48 = .ok (.getfield 48, 3) := by decide +kernel
theorem dX6_lookAhead_51 : decode cX6_lookAhead 51 = .ok (.iconst 2, 1) := by decide +kernel
theorem dX6_lookAhead_52 : decode cX6_lookAhead 52 = .ok (.iaload, 1) := by decide +kernel
theorem dX6_lookAhead_53 : decode cX6_lookAhead 53 = .ok (.aload_n 1, 1) := by decide +kernel
theorem dX6_lookAhead_54 : decode cX6_lookAhead 54 = .ok (.getfield 48, 3) := by decide +kernel
theorem dX6_lookAhead_57 : decode cX6_lookAhead 57 = .ok (.iconst 3, 1) := by decide +kernel
theorem dX6_lookAhead_58 : decode cX6_lookAhead 58 = .ok (.iaload, 1) := by decide +kernel
theorem dX6_lookAhead_59 : decode cX6_lookAhead 59 = .ok (.invokevirtual 51, 3) := by decide +kernel
theorem dX6_lookAhead_62 : decode cX6_lookAhead 62 = .ok (.iastore, 1) := by decide +kernel
theorem dX6_lookAhead_63 : decode cX6_lookAhead 63 = .ok (.aload_n 0, 1) := by decide +kernel
theorem dX6_lookAhead_64 : decode cX6_lookAhead 64 = .ok (.getfield 15, 3) := by decide +kernel
theorem dX6_lookAhead_67 : decode cX6_lookAhead 67 = .ok (.iload_n 3, 1) := by decide +kernel
theorem dX6_lookAhead_68 : decode cX6_lookAhead 68 = .ok (.iload 4, 2) := by decide +kernel
theorem dX6_lookAhead_70 : decode cX6_lookAhead 70 = .ok (.ifCond .ne 7, 3) := by decide +kernel
theorem dX6_lookAhead_73 : decode cX6_lookAhead 73 = .ok (.iconst 1, 1) := by decide +kernel
theorem dX6_lookAhead_74 : decode cX6_lookAhead 74 = .ok (.goto 4, 3) := by decide +kernel
theorem dX6_lookAhead_77 : decode cX6_lookAhead 77 = .ok (.iconst 0, 1) := by decide +kernel
theorem dX6_lookAhead_78 : decode cX6_lookAhead 78 = .ok (.bastore, 1) := by decide +kernel
theorem dX6_lookAhead_79 : decode cX6_lookAhead 79 = .ok (.iinc 3 1, 3) := by decide +kernel
theorem dX6_lookAhead_82 : decode cX6_lookAhead 82 = .ok (.goto (-69), 3) := by decide +kernel
theorem dX6_lookAhead_85 : decode cX6_lookAhead 85 = .ok (.return_, 1) := by decide +kernel
theorem dX6_losesAtMost_0 : decode cX6_losesAtMost 0 = .ok (.aload_n 3, 1) := by decide +kernel
theorem dX6_losesAtMost_1 : decode cX6_losesAtMost 1 = .ok (.getfield 57, 3) := by decide +kernel
theorem dX6_losesAtMost_4 : decode cX6_losesAtMost 4 = .ok (.astore 4, 2) := by decide +kernel
theorem dX6_losesAtMost_6 : decode cX6_losesAtMost 6 = .ok (.aload_n 3, 1) := by decide +kernel
theorem dX6_losesAtMost_7 : decode cX6_losesAtMost 7 = .ok (.getfield 48, 3) := by decide +kernel
theorem dX6_losesAtMost_10 : decode cX6_losesAtMost 10 = .ok (.iconst 1, 1) := by decide +kernel
theorem dX6_losesAtMost_11 : decode cX6_losesAtMost 11 = .ok (.iaload, 1) := by decide +kernel
theorem dX6_losesAtMost_12 : decode cX6_losesAtMost 12 = .ok (.istore 5, 2) := by decide +kernel
theorem dX6_losesAtMost_14 : decode cX6_losesAtMost 14 = .ok (.aload_n 3, 1) := by decide +kernel
theorem dX6_losesAtMost_15 : decode cX6_losesAtMost 15 = .ok (.getfield 48, 3) := by decide +kernel
theorem dX6_losesAtMost_18 : decode cX6_losesAtMost 18 = .ok (.iconst 4, 1) := by decide +kernel
theorem dX6_losesAtMost_19 : decode cX6_losesAtMost 19 = .ok (.iaload, 1) := by decide +kernel
theorem dX6_losesAtMost_20 : decode cX6_losesAtMost 20 = .ok (.istore 6, 2) := by decide +kernel
theorem dX6_losesAtMost_22 : decode cX6_losesAtMost 22 = .ok (.aload 4, 2) := by decide +kernel
theorem dX6_losesAtMost_24 : decode cX6_losesAtMost 24 = .ok (.getfield 61, 3) := by decide +kernel
theorem dX6_losesAtMost_27 : decode cX6_losesAtMost 27 = .ok (.aload 4, 2) := by decide +kernel
theorem dX6_losesAtMost_29 : decode cX6_losesAtMost 29 = .ok (.getfield 66, 3) := by decide +kernel
theorem dX6_losesAtMost_32 : decode cX6_losesAtMost 32 = .ok (.iadd, 1) := by decide +kernel
theorem dX6_losesAtMost_33 : decode cX6_losesAtMost 33 = .ok (.iload_n 1, 1) := by decide +kernel
theorem dX6_losesAtMost_34 : decode cX6_losesAtMost 34 = .ok (.iadd, 1) := by decide +kernel
theorem dX6_losesAtMost_35 : decode cX6_losesAtMost 35 = .ok (.istore 7, 2) := by decide +kernel
theorem dX6_losesAtMost_37 : decode cX6_losesAtMost 37 = .ok (.iconst 0, 1) := by decide +kernel
theorem dX6_losesAtMost_38 : decode cX6_losesAtMost 38 = .ok (.istore 8, 2) := by decide +kernel
theorem dX6_losesAtMost_40 : decode cX6_losesAtMost 40 = .ok (.iload 8, 2) := by decide +kernel
theorem dX6_losesAtMost_42 : decode cX6_losesAtMost 42 = .ok (.aload_n 0, 1) := by decide +kernel
theorem dX6_losesAtMost_43 : decode cX6_losesAtMost 43 = .ok (.getfield 25, 3) := by decide +kernel
theorem dX6_losesAtMost_46 : decode cX6_losesAtMost 46 = .ok (.if_icmp .ge 50, 3) := by decide +kernel
theorem dX6_losesAtMost_49 : decode cX6_losesAtMost 49 = .ok (.aload 4, 2) := by decide +kernel
theorem dX6_losesAtMost_51 : decode cX6_losesAtMost 51 = .ok (.getfield 61, 3) := by decide +kernel
theorem dX6_losesAtMost_54 : decode cX6_losesAtMost 54 = .ok (.aload 4, 2) := by decide +kernel
theorem dX6_losesAtMost_56 : decode cX6_losesAtMost 56 = .ok (.getfield 66, 3) := by decide +kernel
theorem dX6_losesAtMost_59 : decode cX6_losesAtMost 59 = .ok (.iadd, 1) := by decide +kernel
theorem dX6_losesAtMost_60 : decode cX6_losesAtMost 60 = .ok (.iload 7, 2) := by decide +kernel
theorem dX6_losesAtMost_62 : decode cX6_losesAtMost 62 = .ok (.if_icmp .gt 34, 3) := by decide +kernel
theorem dX6_losesAtMost_65 : decode cX6_losesAtMost 65 = .ok (.aload 4, 2) := by decide +kernel
theorem dX6_losesAtMost_67 : decode cX6_losesAtMost 67 = .ok (.aload_n 0, 1) := by decide +kernel
theorem dX6_losesAtMost_68 : decode cX6_losesAtMost 68 = .ok (.getfield 9, 3) := by decide +kernel
theorem dX6_losesAtMost_71 : decode cX6_losesAtMost 71 = .ok (.iload 8, 2) := by decide +kernel
theorem dX6_losesAtMost_73 : decode cX6_losesAtMost 73 = .ok (.iaload, 1) := by decide +kernel
theorem dX6_losesAtMost_74 : decode cX6_losesAtMost 74 = .ok (.aload_n 0, 1) := by decide +kernel
theorem dX6_losesAtMost_75 : decode cX6_losesAtMost 75 = .ok (.getfield 15, 3) := by decide +kernel
theorem dX6_losesAtMost_78 : decode cX6_losesAtMost 78 = .ok (.iload 8, 2) := by decide +kernel
theorem dX6_losesAtMost_80 : decode cX6_losesAtMost 80 = .ok (.baload, 1) := by decide +kernel
theorem dX6_losesAtMost_81 : decode cX6_losesAtMost 81 = .ok (.iload_n 2, 1) := by decide +kernel
theorem dX6_losesAtMost_82 : decode cX6_losesAtMost 82 = .ok (.iload 5, 2) := by decide +kernel
theorem dX6_losesAtMost_84 : decode cX6_losesAtMost 84 = .ok (.iload 6, 2) := by decide +kernel
theorem dX6_losesAtMost_86 : decode cX6_losesAtMost 86 = .ok (.invokevirtual 69, 3) := by decide +kernel
theorem dX6_losesAtMost_89 : decode cX6_losesAtMost 89 = .ok (.pop, 1) := by decide +kernel
theorem dX6_losesAtMost_90 : decode cX6_losesAtMost 90 = .ok (.iinc 8 1, 3) := by decide +kernel
theorem dX6_losesAtMost_93 : decode cX6_losesAtMost 93 = .ok (.goto (-53), 3) := by decide +kernel
theorem dX6_losesAtMost_96 : decode cX6_losesAtMost 96 = .ok (.aload 4, 2) := by decide +kernel
theorem dX6_losesAtMost_98 : decode cX6_losesAtMost 98 = .ok (.getfield 61, 3) := by decide +kernel
theorem dX6_losesAtMost_101 : decode cX6_losesAtMost 101 = .ok (.aload 4, 2) := by decide +kernel
theorem dX6_losesAtMost_103 : decode cX6_losesAtMost 103 = .ok (.getfield 66, 3) := by decide +kernel
theorem dX6_losesAtMost_106 : decode cX6_losesAtMost 106 = .ok (.iadd, 1) := by decide +kernel
theorem dX6_losesAtMost_107 : decode cX6_losesAtMost 107 = .ok (.iload 7, 2) := by decide +kernel
theorem dX6_losesAtMost_109 : decode cX6_losesAtMost 109 = .ok (.if_icmp .gt 7, 3) := by decide +kernel
theorem dX6_losesAtMost_112 : decode cX6_losesAtMost 112 = .ok (.iconst 1, 1) := by decide +kernel
theorem dX6_losesAtMost_113 : decode cX6_losesAtMost 113 = .ok (.goto 4, 3) := by decide +kernel
theorem dX6_losesAtMost_116 : decode cX6_losesAtMost 116 = .ok (.iconst 0, 1) := by decide +kernel
theorem dX6_losesAtMost_117 : decode cX6_losesAtMost 117 = .ok (.ireturn, 1) := by decide +kernel
theorem dX7_init_0 : decode cX7_init 0 = .ok (.aload_n 0, 1) := by decide +kernel
theorem dX7_init_1 : decode cX7_init 1 = .ok (.invokespecial 3, 3) := by decide +kernel
theorem dX7_init_4 : decode cX7_init 4 = .ok (.aload_n 0, 1) := by decide +kernel
theorem dX7_init_5 : decode cX7_init 5 = .ok (.bipush 12, 2) := by decide +kernel
theorem dX7_init_7 : decode cX7_init 7 = .ok (.newarray .int, 2) := by decide +kernel
theorem dX7_init_9 : decode cX7_init 9 = .ok (.putfield 9, 3) := by decide +kernel
theorem dX7_init_12 : decode cX7_init 12 = .ok (.aload_n 0, 1) := by decide +kernel
theorem dX7_init_13 : decode cX7_init 13 = .ok (.bipush 12, 2) := by decide +kernel
theorem dX7_init_15 : decode cX7_init 15 = .ok (.newarray .int, 2) := by decide +kernel
theorem dX7_init_17 : decode cX7_init 17 = .ok (.putfield 15, 3) := by decide +kernel
theorem dX7_init_20 : decode cX7_init 20 = .ok (.aload_n 0, 1) := by decide +kernel
theorem dX7_init_21 : decode cX7_init 21 = .ok (.bipush 12, 2) := by decide +kernel
theorem dX7_init_23 : decode cX7_init 23 = .ok (.newarray .int, 2) := by decide +kernel
theorem dX7_init_25 : decode cX7_init 25 = .ok (.putfield 18, 3) := by decide +kernel
theorem dX7_init_28 : decode cX7_init 28 = .ok (.return_, 1) := by decide +kernel
theorem dX8_init_0 : decode cX8_init 0 = .ok (.aload_n 0, 1) := by decide +kernel
theorem dX8_init_1 : decode cX8_init 1 = .ok (.invokespecial 3, 3) := by decide +kernel
theorem dX8_init_4 : decode cX8_init 4 = .ok (.aload_n 0, 1) := by decide +kernel
theorem dX8_init_5 : decode cX8_init 5 = .ok (.bipush 12, 2) := by decide +kernel
theorem dX8_init_7 : decode cX8_init 7 = .ok (.newarray .int, 2) := by decide +kernel
theorem dX8_init_9 : decode cX8_init 9 = .ok (.putfield 9, 3) := by decide +kernel
theorem dX8_init_12 : decode cX8_init 12 = .ok (.aload_n 0, 1) := by decide +kernel
theorem dX8_init_13 : decode cX8_init 13 = .ok (.bipush 12, 2) := by decide +kernel
theorem dX8_init_15 : decode cX8_init 15 = .ok (.newarray .int, 2) := by decide +kernel
theorem dX8_init_17 : decode cX8_init 17 = .ok (.putfield 15, 3) := by decide +kernel
theorem dX8_init_20 : decode cX8_init 20 = .ok (.aload_n 0, 1) := by decide +kernel
theorem dX8_init_21 : decode cX8_init 21 = .ok (.bipush 12, 2) := by decide +kernel
theorem dX8_init_23 : decode cX8_init 23 = .ok (.newarray .int, 2) := by decide +kernel
theorem dX8_init_25 : decode cX8_init 25 = .ok (.putfield 18, 3) := by decide +kernel
theorem dX8_init_28 : decode cX8_init 28 = .ok (.return_, 1) := by decide +kernel
theorem dX8_copyFrom_0 : decode cX8_copyFrom 0 = .ok (.aload_n 1, 1) := by decide +kernel
theorem dX8_copyFrom_1 : decode cX8_copyFrom 1 = .ok (.getfield 9, 3) := by decide +kernel
theorem dX8_copyFrom_4 : decode cX8_copyFrom 4 = .ok (.aload_n 0, 1) := by decide +kernel
theorem dX8_copyFrom_5 : decode cX8_copyFrom 5 = .ok (.getfield 9, 3) := by decide +kernel
theorem dX8_copyFrom_8 : decode cX8_copyFrom 8 = .ok (.invokestatic 21, 3) := by decide +kernel
theorem dX8_copyFrom_11 : decode cX8_copyFrom 11 = .ok (.aload_n 1, 1) := by decide +kernel
theorem dX8_copyFrom_12 : decode cX8_copyFrom 12 = .ok (.getfield 15, 3) := by decide +kernel
theorem dX8_copyFrom_15 : decode cX8_copyFrom 15 = .ok (.aload_n 0, 1) := by decide +kernel
theorem dX8_copyFrom_16 : decode cX8_copyFrom 16 = .ok (.getfield 15, 3) := by decide +kernel
theorem dX8_copyFrom_19 : decode cX8_copyFrom 19 = .ok (.invokestatic 21, 3) := by decide +kernel
theorem dX8_copyFrom_22 : decode cX8_copyFrom 22 = .ok (.aload_n 1, 1) := by decide +kernel
theorem dX8_copyFrom_23 : decode cX8_copyFrom 23 = .ok (.getfield 18, 3) := by decide +kernel
theorem dX8_copyFrom_26 : decode cX8_copyFrom 26 = .ok (.aload_n 0, 1) := by decide +kernel
theorem dX8_copyFrom_27 : decode cX8_copyFrom 27 = .ok (.getfield 18, 3) := by decide +kernel
theorem dX8_copyFrom_30 : decode cX8_copyFrom 30 = .ok (.invokestatic 21, 3) := by decide +kernel
theorem dX8_copyFrom_33 : decode cX8_copyFrom 33 = .ok (.aload_n 0, 1) := by decide +kernel
theorem dX8_copyFrom_34 : decode cX8_copyFrom 34 = .ok (.aload_n 1, 1) := by decide +kernel
theorem dX8_copyFrom_35 : decode cX8_copyFrom 35 = .ok (.getfield 25, 3) := by decide +kernel
theorem dX8_copyFrom_38 : decode cX8_copyFrom 38 = .ok (.putfield 25, 3) := by decide +kernel
theorem dX8_copyFrom_41 : decode cX8_copyFrom 41 = .ok (.return_, 1) := by decide +kernel
theorem dX8_has_0 : decode cX8_has 0 = .ok (.iload_n 1, 1) := by decide +kernel
theorem dX8_has_1 : decode cX8_has 1 = .ok (.ifCond .lt 15, 3) := by decide +kernel
theorem dX8_has_4 : decode cX8_has 4 = .ok (.iload_n 1, 1) := by decide +kernel
theorem dX8_has_5 : decode cX8_has 5 = .ok (.aload_n 0, 1) := by decide +kernel
theorem dX8_has_6 : decode cX8_has 6 = .ok (.getfield 25, 3) := by decide +kernel
theorem dX8_has_9 : decode cX8_has 9 = .ok (.if_icmp .ge 7, 3) := by decide +kernel
theorem dX8_has_12 : decode cX8_has 12 = .ok (.iconst 1, 1) := by decide +kernel
theorem dX8_has_13 : decode cX8_has 13 = .ok (.goto 4, 3) := by decide +kernel
theorem dX8_has_16 : decode cX8_has 16 = .ok (.iconst 0, 1) := by decide +kernel
theorem dX8_has_17 : decode cX8_has 17 = .ok (.ireturn, 1) := by decide +kernel
theorem dX8_insert_0 : decode cX8_insert 0 = .ok (.aload_n 0, 1) := by decide +kernel
theorem dX8_insert_1 : decode cX8_insert 1 = .ok (.getfield 25, 3) := by decide +kernel
theorem dX8_insert_4 : decode cX8_insert 4 = .ok (.bipush 12, 2) := by decide +kernel
theorem dX8_insert_6 : decode cX8_insert 6 = .ok (.if_icmp .lt 6, 3) := by decide +kernel
theorem dX8_insert_9 : decode cX8_insert 9 = .ok (.bipush (-3), 2) := by decide +kernel
theorem dX8_insert_11 : decode cX8_insert 11 = .ok (.ireturn, 1) := by decide +kernel
theorem dX8_insert_12 : decode cX8_insert 12 = .ok (.aload_n 0, 1) := by decide +kernel
theorem dX8_insert_13 : decode cX8_insert 13 = .ok (.getfield 25, 3) := by decide +kernel
theorem dX8_insert_16 : decode cX8_insert 16 = .ok (.istore 4, 2) := by decide +kernel
theorem dX8_insert_18 : decode cX8_insert 18 = .ok (.iload 4, 2) := by decide +kernel
theorem dX8_insert_20 : decode cX8_insert 20 = .ok (.ifCond .le 32, 3) := by decide +kernel
theorem dX8_insert_23 : decode cX8_insert 23 = .ok (.aload_n 0, 1) := by decide +kernel
theorem dX8_insert_24 : decode cX8_insert 24 = .ok (.getfield 9, 3) := by decide +kernel
theorem dX8_insert_27 : decode cX8_insert 27 = .ok (.iload 4, 2) := by decide +kernel
theorem dX8_insert_29 : decode cX8_insert 29 = .ok (.iconst 1, 1) := by decide +kernel
theorem dX8_insert_30 : decode cX8_insert 30 = .ok (.isub, 1) := by decide +kernel
theorem dX8_insert_31 : decode cX8_insert 31 = .ok (.iaload, 1) := by decide +kernel
theorem dX8_insert_32 : decode cX8_insert 32 = .ok (.iload_n 1, 1) := by decide +kernel
theorem dX8_insert_33 : decode cX8_insert 33 = .ok (.if_icmp .le 19, 3) := by decide +kernel
theorem dX8_insert_36 : decode cX8_insert 36 = .ok (.aload_n 0, 1) := by decide +kernel
theorem dX8_insert_37 : decode cX8_insert 37 = .ok (.iload 4, 2) := by decide +kernel
theorem dX8_insert_39 : decode cX8_insert 39 = .ok (.iconst 1, 1) := by decide +kernel
theorem dX8_insert_40 : decode cX8_insert 40 = .ok (.isub, 1) := by decide +kernel
theorem dX8_insert_41 : decode cX8_insert 41 = .ok (.iload 4, 2) := by decide +kernel
theorem dX8_insert_43 : decode cX8_insert 43 = .ok (.invokevirtual 29, 3) := by decide +kernel
theorem dX8_insert_46 : decode cX8_insert 46 = .ok (.iinc 4 (-1), 3) := by decide +kernel
theorem dX8_insert_49 : decode cX8_insert 49 = .ok (.goto (-31), 3) := by decide +kernel
theorem dX8_insert_52 : decode cX8_insert 52 = .ok (.aload_n 0, 1) := by decide +kernel
theorem dX8_insert_53 : decode cX8_insert 53 = .ok (.getfield 9, 3) := by decide +kernel
theorem dX8_insert_56 : decode cX8_insert 56 = .ok (.iload 4, 2) := by decide +kernel
theorem dX8_insert_58 : decode cX8_insert 58 = .ok (.iload_n 1, 1) := by decide +kernel
theorem dX8_insert_59 : decode cX8_insert 59 = .ok (.iastore, 1) := by decide +kernel
theorem dX8_insert_60 : decode cX8_insert 60 = .ok (.aload_n 0, 1) := by decide +kernel
theorem dX8_insert_61 : decode cX8_insert 61 = .ok (.getfield 15, 3) := by decide +kernel
theorem dX8_insert_64 : decode cX8_insert 64 = .ok (.iload 4, 2) := by decide +kernel
theorem dX8_insert_66 : decode cX8_insert 66 = .ok (.iload_n 2, 1) := by decide +kernel
theorem dX8_insert_67 : decode cX8_insert 67 = .ok (.iastore, 1) := by decide +kernel
theorem dX8_insert_68 : decode cX8_insert 68 = .ok (.aload_n 0, 1) := by decide +kernel
theorem dX8_insert_69 : decode cX8_insert 69 = .ok (.getfield 18, 3) := by decide +kernel
theorem dX8_insert_72 : decode cX8_insert 72 = .ok (.iload 4, 2) := by decide +kernel
theorem dX8_insert_74 : decode cX8_insert 74 = .ok (.iload_n 3, 1) := by decide +kernel
theorem dX8_insert_75 : decode cX8_insert 75 = .ok (.iastore, 1) := by decide +kernel
theorem dX8_insert_76 : decode cX8_insert 76 = .ok (.aload_n 0, 1) := by decide +kernel
theorem dX8_insert_77 : decode cX8_insert 77 = .ok (.dup, 1) := by decide +kernel
theorem dX8_insert_78 : decode cX8_insert 78 = .ok (.getfield 25, 3) := by decide +kernel
theorem dX8_insert_81 : decode cX8_insert 81 = .ok (.iconst 1, 1) := by decide +kernel
theorem dX8_insert_82 : decode cX8_insert 82 = .ok (.iadd, 1) := by decide +kernel
theorem dX8_insert_83 : decode cX8_insert 83 = .ok (.putfield 25, 3) := by decide +kernel
theorem dX8_insert_86 : decode cX8_insert 86 = .ok (.iload 4, 2) := by decide +kernel
theorem dX8_insert_88 : decode cX8_insert 88 = .ok (.ireturn, 1) := by decide +kernel
theorem dX8_removeEnded_0 : decode cX8_removeEnded 0 = .ok (.iconst 0, 1) := by decide +kernel
theorem dX8_removeEnded_1 : decode cX8_removeEnded 1 = .ok (.istore_n 2, 1) := by decide +kernel
theorem dX8_removeEnded_2 : decode cX8_removeEnded 2 = .ok (.iconst 0, 1) := by decide +kernel
theorem dX8_removeEnded_3 : decode cX8_removeEnded 3 = .ok (.istore_n 3, 1) := by decide +kernel
theorem dX8_removeEnded_4 : decode cX8_removeEnded 4 = .ok (.iload_n 3, 1) := by decide +kernel
theorem dX8_removeEnded_5 : decode cX8_removeEnded 5 = .ok (.aload_n 0, 1) := by decide +kernel
theorem dX8_removeEnded_6 : decode cX8_removeEnded 6 = .ok (.getfield 25, 3) := by decide +kernel
theorem dX8_removeEnded_9 : decode cX8_removeEnded 9 = .ok (.if_icmp .ge 35, 3) := by decide +kernel
theorem dX8_removeEnded_12 : decode cX8_removeEnded 12 = .ok (.aload_n 0, 1) := by decide +kernel
theorem dX8_removeEnded_13 : decode cX8_removeEnded 13 = .ok (.getfield 9, 3) := by decide +kernel
theorem dX8_removeEnded_16 : decode cX8_removeEnded 16 = .ok (.iload_n 3, 1) := by decide +kernel
theorem dX8_removeEnded_17 : decode cX8_removeEnded 17 = .ok (.iaload, 1) := by decide +kernel
theorem dX8_removeEnded_18 : decode cX8_removeEnded 18 = .ok (.aload_n 0, 1) := by decide +kernel
theorem dX8_removeEnded_19 : decode cX8_removeEnded 19 = .ok (.getfield 15, 3) := by decide +kernel
theorem dX8_removeEnded_22 : decode cX8_removeEnded 22 = .ok (.iload_n 3, 1) := by decide +kernel
theorem dX8_removeEnded_23 : decode cX8_removeEnded 23 = .ok (.iaload, 1) := by decide +kernel
theorem dX8_removeEnded_24 : decode cX8_removeEnded 24 = .ok (.iadd, 1) := by decide +kernel
theorem dX8_removeEnded_25 : decode cX8_removeEnded 25 = .ok (.iload_n 1, 1) := by decide +kernel
theorem dX8_removeEnded_26 : decode cX8_removeEnded 26 = .ok (.if_icmp .le 12, 3) := by decide +kernel
theorem dX8_removeEnded_29 : decode cX8_removeEnded 29 = .ok (.aload_n 0, 1) := by decide +kernel
theorem dX8_removeEnded_30 : decode cX8_removeEnded 30 = .ok (.iload_n 3, 1) := by decide +kernel
theorem dX8_removeEnded_31 : decode cX8_removeEnded 31 = .ok (.iload_n 2, 1) := by decide +kernel
theorem dX8_removeEnded_32 : decode cX8_removeEnded 32 = .ok (.invokevirtual 29, 3) := by decide +kernel
theorem dX8_removeEnded_35 : decode cX8_removeEnded 35 = .ok (.iinc 2 1, 3) := by decide +kernel
theorem dX8_removeEnded_38 : decode cX8_removeEnded 38 = .ok (.iinc 3 1, 3) := by decide +kernel
theorem dX8_removeEnded_41 : decode cX8_removeEnded 41 = .ok (.goto (-37), 3) := by decide +kernel
theorem dX8_removeEnded_44 : decode cX8_removeEnded 44 = .ok (.aload_n 0, 1) := by decide +kernel
theorem dX8_removeEnded_45 : decode cX8_removeEnded 45 = .ok (.iload_n 2, 1) := by decide +kernel
theorem dX8_removeEnded_46 : decode cX8_removeEnded 46 = .ok (.putfield 25, 3) := by decide +kernel
theorem dX8_removeEnded_49 : decode cX8_removeEnded 49 = .ok (.return_, 1) := by decide +kernel
theorem dX8_move_0 : decode cX8_move 0 = .ok (.aload_n 0, 1) := by decide +kernel
theorem dX8_move_1 : decode cX8_move 1 = .ok (.getfield 9, 3) := by decide +kernel
theorem dX8_move_4 : decode cX8_move 4 = .ok (.iload_n 2, 1) := by decide +kernel
theorem dX8_move_5 : decode cX8_move 5 = .ok (.aload_n 0, 1) := by decide +kernel
theorem dX8_move_6 : decode cX8_move 6 = .ok (.getfield 9, 3) := by decide +kernel
theorem dX8_move_9 : decode cX8_move 9 = .ok (.iload_n 1, 1) := by decide +kernel
theorem dX8_move_10 : decode cX8_move 10 = .ok (.iaload, 1) := by decide +kernel
theorem dX8_move_11 : decode cX8_move 11 = .ok (.iastore, 1) := by decide +kernel
theorem dX8_move_12 : decode cX8_move 12 = .ok (.aload_n 0, 1) := by decide +kernel
theorem dX8_move_13 : decode cX8_move 13 = .ok (.getfield 15, 3) := by decide +kernel
theorem dX8_move_16 : decode cX8_move 16 = .ok (.iload_n 2, 1) := by decide +kernel
theorem dX8_move_17 : decode cX8_move 17 = .ok (.aload_n 0, 1) := by decide +kernel
theorem dX8_move_18 : decode cX8_move 18 = .ok (.getfield 15, 3) := by decide +kernel
theorem dX8_move_21 : decode cX8_move 21 = .ok (.iload_n 1, 1) := by decide +kernel
theorem dX8_move_22 : decode cX8_move 22 = .ok (.iaload, 1) := by decide +kernel
theorem dX8_move_23 : decode cX8_move 23 = .ok (.iastore, 1) := by decide +kernel
theorem dX8_move_24 : decode cX8_move 24 = .ok (.aload_n 0, 1) := by decide +kernel
theorem dX8_move_25 : decode cX8_move 25 = .ok (.getfield 18, 3) := by decide +kernel
theorem dX8_move_28 : decode cX8_move 28 = .ok (.iload_n 2, 1) := by decide +kernel
theorem dX8_move_29 : decode cX8_move 29 = .ok (.aload_n 0, 1) := by decide +kernel
theorem dX8_move_30 : decode cX8_move 30 = .ok (.getfield 18, 3) := by decide +kernel
theorem dX8_move_33 : decode cX8_move 33 = .ok (.iload_n 1, 1) := by decide +kernel
theorem dX8_move_34 : decode cX8_move 34 = .ok (.iaload, 1) := by decide +kernel
theorem dX8_move_35 : decode cX8_move 35 = .ok (.iastore, 1) := by decide +kernel
theorem dX8_move_36 : decode cX8_move 36 = .ok (.return_, 1) := by decide +kernel
theorem dX8_rainIn_0 : decode cX8_rainIn 0 = .ok (.iconst 0, 1) := by decide +kernel
theorem dX8_rainIn_1 : decode cX8_rainIn 1 = .ok (.istore_n 2, 1) := by decide +kernel
theorem dX8_rainIn_2 : decode cX8_rainIn 2 = .ok (.iconst 0, 1) := by decide +kernel
theorem dX8_rainIn_3 : decode cX8_rainIn 3 = .ok (.istore_n 3, 1) := by decide +kernel
theorem dX8_rainIn_4 : decode cX8_rainIn 4 = .ok (.iload_n 3, 1) := by decide +kernel
theorem dX8_rainIn_5 : decode cX8_rainIn 5 = .ok (.aload_n 0, 1) := by decide +kernel
theorem dX8_rainIn_6 : decode cX8_rainIn 6 = .ok (.getfield 25, 3) := by decide +kernel
theorem dX8_rainIn_9 : decode cX8_rainIn 9 = .ok (.if_icmp .ge 45, 3) := by decide +kernel
theorem dX8_rainIn_12 : decode cX8_rainIn 12 = .ok (.aload_n 0, 1) := by decide +kernel
theorem dX8_rainIn_13 : decode cX8_rainIn 13 = .ok (.getfield 9, 3) := by decide +kernel
theorem dX8_rainIn_16 : decode cX8_rainIn 16 = .ok (.iload_n 3, 1) := by decide +kernel
theorem dX8_rainIn_17 : decode cX8_rainIn 17 = .ok (.iaload, 1) := by decide +kernel
theorem dX8_rainIn_18 : decode cX8_rainIn 18 = .ok (.iload_n 1, 1) := by decide +kernel
theorem dX8_rainIn_19 : decode cX8_rainIn 19 = .ok (.if_icmp .gt 29, 3) := by decide +kernel
theorem dX8_rainIn_22 : decode cX8_rainIn 22 = .ok (.iload_n 1, 1) := by decide +kernel
theorem dX8_rainIn_23 : decode cX8_rainIn 23 = .ok (.aload_n 0, 1) := by decide +kernel
theorem dX8_rainIn_24 : decode cX8_rainIn 24 = .ok (.getfield 9, 3) := by decide +kernel
theorem dX8_rainIn_27 : decode cX8_rainIn 27 = .ok (.iload_n 3, 1) := by decide +kernel
theorem dX8_rainIn_28 : decode cX8_rainIn 28 = .ok (.iaload, 1) := by decide +kernel
theorem dX8_rainIn_29 : decode cX8_rainIn 29 = .ok (.aload_n 0, 1) := by decide +kernel
theorem dX8_rainIn_30 : decode cX8_rainIn 30 = .ok (.getfield 15, 3) := by decide +kernel
theorem dX8_rainIn_33 : decode cX8_rainIn 33 = .ok (.iload_n 3, 1) := by decide +kernel
theorem dX8_rainIn_34 : decode cX8_rainIn 34 = .ok (.iaload, 1) := by decide +kernel
theorem dX8_rainIn_35 : decode cX8_rainIn 35 = .ok (.iadd, 1) := by decide +kernel
theorem dX8_rainIn_36 : decode cX8_rainIn 36 = .ok (.if_icmp .ge 12, 3) := by decide +kernel
theorem dX8_rainIn_39 : decode cX8_rainIn 39 = .ok (.iload_n 2, 1) := by decide +kernel
theorem dX8_rainIn_40 : decode cX8_rainIn 40 = .ok (.aload_n 0, 1) := by decide +kernel
theorem dX8_rainIn_41 : decode cX8_rainIn 41 = .ok (.getfield 18, 3) := by decide +kernel
theorem dX8_rainIn_44 : decode cX8_rainIn 44 = .ok (.iload_n 3, 1) := by decide +kernel
theorem dX8_rainIn_45 : decode cX8_rainIn 45 = .ok (.iaload, 1) := by decide +kernel
theorem dX8_rainIn_46 : decode cX8_rainIn 46 = .ok (.iadd, 1) := by decide +kernel
theorem dX8_rainIn_47 : decode cX8_rainIn 47 = .ok (.istore_n 2, 1) := by decide +kernel
theorem dX8_rainIn_48 : decode cX8_rainIn 48 = .ok (.iinc 3 1, 3) := by decide +kernel
theorem dX8_rainIn_51 : decode cX8_rainIn 51 = .ok (.goto (-47), 3) := by decide +kernel
theorem dX8_rainIn_54 : decode cX8_rainIn 54 = .ok (.iload_n 2, 1) := by decide +kernel
theorem dX8_rainIn_55 : decode cX8_rainIn 55 = .ok (.ireturn, 1) := by decide +kernel
theorem dX8_ticksToCome_0 : decode cX8_ticksToCome 0 = .ok (.aload_n 0, 1) := by decide +kernel
theorem dX8_ticksToCome_1 : decode cX8_ticksToCome 1 = .ok (.iload_n 1, 1) := by decide +kernel
theorem dX8_ticksToCome_2 : decode cX8_ticksToCome 2 = .ok (.invokevirtual 33, 3) := by decide +kernel
theorem dX8_ticksToCome_5 : decode cX8_ticksToCome 5 = .ok (.ifCond .ne 5, 3) := by decide +kernel
theorem dX8_ticksToCome_8 : decode cX8_ticksToCome 8 = .ok (.iconst 0, 1) := by decide +kernel
theorem dX8_ticksToCome_9 : decode cX8_ticksToCome 9 = .ok (.ireturn, 1) := by decide +kernel
theorem dX8_ticksToCome_10 : decode cX8_ticksToCome 10 = .ok (.aload_n 0, 1) := by decide +kernel
theorem dX8_ticksToCome_11 : decode cX8_ticksToCome 11 = .ok (.getfield 9, 3) := by decide +kernel
theorem dX8_ticksToCome_14 : decode cX8_ticksToCome 14 = .ok (.iload_n 1, 1) := by decide +kernel
theorem dX8_ticksToCome_15 : decode cX8_ticksToCome 15 = .ok (.iaload, 1) := by decide +kernel
theorem dX8_ticksToCome_16 : decode cX8_ticksToCome 16 = .ok (.aload_n 0, 1) := by decide +kernel
theorem dX8_ticksToCome_17 : decode cX8_ticksToCome 17 = .ok (.getfield 15, 3) := by decide +kernel
theorem dX8_ticksToCome_20 : decode cX8_ticksToCome 20 = .ok (.iload_n 1, 1) := by decide +kernel
theorem dX8_ticksToCome_21 : decode cX8_ticksToCome 21 = .ok (.iaload, 1) := by decide +kernel
theorem dX8_ticksToCome_22 : decode cX8_ticksToCome 22 = .ok (.iadd, 1) := by decide +kernel
theorem dX8_ticksToCome_23 : decode cX8_ticksToCome 23 = .ok (.aload_n 0, 1) := by decide +kernel
theorem dX8_ticksToCome_24 : decode cX8_ticksToCome 24 = .ok (.getfield 9, 3) := by decide +kernel
theorem dX8_ticksToCome_27 : decode cX8_ticksToCome 27 = .ok (.iload_n 1, 1) := by decide +kernel
theorem dX8_ticksToCome_28 : decode cX8_ticksToCome 28 = .ok (.iaload, 1) := by decide +kernel
theorem dX8_ticksToCome_29 : decode cX8_ticksToCome 29 = .ok (.iload_n 2, 1) := by decide +kernel
theorem dX8_ticksToCome_30 : decode cX8_ticksToCome 30 = .ok (.invokestatic 37, 3) := by decide +kernel
theorem dX8_ticksToCome_33 : decode cX8_ticksToCome 33 = .ok (.isub, 1) := by decide +kernel
theorem dX8_ticksToCome_34 : decode cX8_ticksToCome 34 = .ok (.ireturn, 1) := by decide +kernel
theorem dX9_init_0 : decode cX9_init 0 = .ok (.aload_n 0, 1) := by decide +kernel
theorem dX9_init_1 : decode cX9_init 1 = .ok (.invokespecial 3, 3) := by decide +kernel
theorem dX9_init_4 : decode cX9_init 4 = .ok (.aload_n 0, 1) := by decide +kernel
theorem dX9_init_5 : decode cX9_init 5 = .ok (.bipush 8, 2) := by decide +kernel
theorem dX9_init_7 : decode cX9_init 7 = .ok (.newarray .int, 2) := by decide +kernel
theorem dX9_init_9 : decode cX9_init 9 = .ok (.putfield 9, 3) := by decide +kernel
theorem dX9_init_12 : decode cX9_init 12 = .ok (.aload_n 0, 1) := by decide +kernel
theorem dX9_init_13 : decode cX9_init 13 = .ok (.new 15, 3) := by decide +kernel
theorem dX9_init_16 : decode cX9_init 16 = .ok (.dup, 1) := by decide +kernel
theorem dX9_init_17 : decode cX9_init 17 = .ok (.invokespecial 17, 3) := by decide +kernel
theorem dX9_init_20 : decode cX9_init 20 = .ok (.putfield 18, 3) := by decide +kernel
theorem dX9_init_23 : decode cX9_init 23 = .ok (.aload_n 0, 1) := by decide +kernel
theorem dX9_init_24 : decode cX9_init 24 = .ok (.new 22, 3) := by decide +kernel
theorem dX9_init_27 : decode cX9_init 27 = .ok (.dup, 1) := by decide +kernel
theorem dX9_init_28 : decode cX9_init 28 = .ok (.invokespecial 24, 3) := by decide +kernel
theorem dX9_init_31 : decode cX9_init 31 = .ok (.putfield 25, 3) := by decide +kernel
theorem dX9_init_34 : decode cX9_init 34 = .ok (.aload_n 0, 1) := by decide +kernel
theorem dX9_init_35 : decode cX9_init 35 = .ok (.new 29, 3) := by decide +kernel
theorem dX9_init_38 : decode cX9_init 38 = .ok (.dup, 1) := by decide +kernel
theorem dX9_init_39 : decode cX9_init 39 = .ok (.invokespecial 31, 3) := by decide +kernel
theorem dX9_init_42 : decode cX9_init 42 = .ok (.putfield 32, 3) := by decide +kernel
theorem dX9_init_45 : decode cX9_init 45 = .ok (.aload_n 0, 1) := by decide +kernel
theorem dX9_init_46 : decode cX9_init 46 = .ok (.new 36, 3) := by decide +kernel
theorem dX9_init_49 : decode cX9_init 49 = .ok (.dup, 1) := by decide +kernel
theorem dX9_init_50 : decode cX9_init 50 = .ok (.invokespecial 38, 3) := by decide +kernel
theorem dX9_init_53 : decode cX9_init 53 = .ok (.putfield 39, 3) := by decide +kernel
theorem dX9_init_56 : decode cX9_init 56 = .ok (.aload_n 0, 1) := by decide +kernel
theorem dX9_init_57 : decode cX9_init 57 = .ok (.new 43, 3) := by decide +kernel
theorem dX9_init_60 : decode cX9_init 60 = .ok (.dup, 1) := by decide +kernel
theorem dX9_init_61 : decode cX9_init 61 = .ok (.invokespecial 45, 3) := by decide +kernel
theorem dX9_init_64 : decode cX9_init 64 = .ok (.putfield 46, 3) := by decide +kernel
theorem dX9_init_67 : decode cX9_init 67 = .ok (.aload_n 0, 1) := by decide +kernel
theorem dX9_init_68 : decode cX9_init 68 = .ok (.new 50, 3) := by decide +kernel
theorem dX9_init_71 : decode cX9_init 71 = .ok (.dup, 1) := by decide +kernel
theorem dX9_init_72 : decode cX9_init 72 = .ok (.invokespecial 52, 3) := by decide +kernel
theorem dX9_init_75 : decode cX9_init 75 = .ok (.putfield 53, 3) := by decide +kernel
theorem dX9_init_78 : decode cX9_init 78 = .ok (.getstatic 57, 3) := by decide +kernel
theorem dX9_init_81 : decode cX9_init 81 = .ok (.aload_n 0, 1) := by decide +kernel
theorem dX9_init_82 : decode cX9_init 82 = .ok (.getfield 9, 3) := by decide +kernel
theorem dX9_init_85 : decode cX9_init 85 = .ok (.invokestatic 60, 3) := by decide +kernel
theorem dX9_init_88 : decode cX9_init 88 = .ok (.return_, 1) := by decide +kernel
theorem dX9_copyFrom_0 : decode cX9_copyFrom 0 = .ok (.aload_n 1, 1) := by decide +kernel
theorem dX9_copyFrom_1 : decode cX9_copyFrom 1 = .ok (.getfield 9, 3) := by decide +kernel
theorem dX9_copyFrom_4 : decode cX9_copyFrom 4 = .ok (.aload_n 0, 1) := by decide +kernel
theorem dX9_copyFrom_5 : decode cX9_copyFrom 5 = .ok (.getfield 9, 3) := by decide +kernel
theorem dX9_copyFrom_8 : decode cX9_copyFrom 8 = .ok (.invokestatic 60, 3) := by decide +kernel
theorem dX9_copyFrom_11 : decode cX9_copyFrom 11 = .ok (.aload_n 0, 1) := by decide +kernel
theorem dX9_copyFrom_12 : decode cX9_copyFrom 12 = .ok (.getfield 18, 3) := by decide +kernel
theorem dX9_copyFrom_15 : decode cX9_copyFrom 15 = .ok (.aload_n 1, 1) := by decide +kernel
theorem dX9_copyFrom_16 : decode cX9_copyFrom 16 = .ok (.getfield 18, 3) := by decide +kernel
theorem dX9_copyFrom_19 : decode cX9_copyFrom 19 = .ok (.invokevirtual 64, 3) := by decide +kernel
theorem dX9_copyFrom_22 : decode cX9_copyFrom 22 = .ok (.aload_n 0, 1) := by decide +kernel
theorem dX9_copyFrom_23 : decode cX9_copyFrom 23 = .ok (.getfield 25, 3) := by decide +kernel
theorem dX9_copyFrom_26 : decode cX9_copyFrom 26 = .ok (.aload_n 1, 1) := by decide +kernel
theorem dX9_copyFrom_27 : decode cX9_copyFrom 27 = .ok (.getfield 25, 3) := by decide +kernel
theorem dX9_copyFrom_30 : decode cX9_copyFrom 30 = .ok (.invokevirtual 68, 3) := by decide +kernel
theorem dX9_copyFrom_33 : decode cX9_copyFrom 33 = .ok (.aload_n 0, 1) := by decide +kernel
theorem dX9_copyFrom_34 : decode cX9_copyFrom 34 = .ok (.getfield 32, 3) := by decide +kernel
theorem dX9_copyFrom_37 : decode cX9_copyFrom 37 = .ok (.aload_n 1, 1) := by decide +kernel
theorem dX9_copyFrom_38 : decode cX9_copyFrom 38 = .ok (.getfield 32, 3) := by decide +kernel
theorem dX9_copyFrom_41 : decode cX9_copyFrom 41 = .ok (.invokevirtual 71, 3) := by decide +kernel
theorem dX9_copyFrom_44 : decode cX9_copyFrom 44 = .ok (.aload_n 0, 1) := by decide +kernel
theorem dX9_copyFrom_45 : decode cX9_copyFrom 45 = .ok (.getfield 39, 3) := by decide +kernel
theorem dX9_copyFrom_48 : decode cX9_copyFrom 48 = .ok (.aload_n 1, 1) := by decide +kernel
theorem dX9_copyFrom_49 : decode cX9_copyFrom 49 = .ok (.getfield 39, 3) := by decide +kernel
theorem dX9_copyFrom_52 : decode cX9_copyFrom 52 = .ok (.invokevirtual 74, 3) := by decide +kernel
theorem dX9_copyFrom_55 : decode cX9_copyFrom 55 = .ok (.aload_n 0, 1) := by decide +kernel
theorem dX9_copyFrom_56 : decode cX9_copyFrom 56 = .ok (.getfield 46, 3) := by decide +kernel
theorem dX9_copyFrom_59 : decode cX9_copyFrom 59 = .ok (.aload_n 1, 1) := by decide +kernel
theorem dX9_copyFrom_60 : decode cX9_copyFrom 60 = .ok (.getfield 46, 3) := by decide +kernel
theorem dX9_copyFrom_63 : decode cX9_copyFrom 63 = .ok (.invokevirtual 77, 3) := by decide +kernel
theorem dX9_copyFrom_66 : decode cX9_copyFrom 66 = .ok (.aload_n 0, 1) := by decide +kernel
theorem dX9_copyFrom_67 : decode cX9_copyFrom 67 = .ok (.getfield 53, 3) := by decide +kernel
theorem dX9_copyFrom_70 : decode cX9_copyFrom 70 = .ok (.aload_n 1, 1) := by decide +kernel
theorem dX9_copyFrom_71 : decode cX9_copyFrom 71 = .ok (.getfield 53, 3) := by decide +kernel
theorem dX9_copyFrom_74 : decode cX9_copyFrom 74 = .ok (.invokevirtual 80, 3) := by decide +kernel
theorem dX9_copyFrom_77 : decode cX9_copyFrom 77 = .ok (.aload_n 0, 1) := by decide +kernel
theorem dX9_copyFrom_78 : decode cX9_copyFrom 78 = .ok (.aload_n 1, 1) := by decide +kernel
theorem dX9_copyFrom_79 : decode cX9_copyFrom 79 = .ok (.getfield 83, 3) := by decide +kernel
theorem dX9_copyFrom_82 : decode cX9_copyFrom 82 = .ok (.putfield 83, 3) := by decide +kernel
theorem dX9_copyFrom_85 : decode cX9_copyFrom 85 = .ok (.aload_n 0, 1) := by decide +kernel
theorem dX9_copyFrom_86 : decode cX9_copyFrom 86 = .ok (.aload_n 1, 1) := by decide +kernel
theorem dX9_copyFrom_87 : decode cX9_copyFrom 87 = .ok (.getfield 87, 3) := by decide +kernel
theorem dX9_copyFrom_90 : decode cX9_copyFrom 90 = .ok (.putfield 87, 3) := by decide +kernel
theorem dX9_copyFrom_93 : decode cX9_copyFrom 93 = .ok (.return_, 1) := by decide +kernel
theorem dX9_passTicks_0 : decode cX9_passTicks 0 = .ok (.iconst 0, 1) := by decide +kernel
theorem dX9_passTicks_1 : decode cX9_passTicks 1 = .ok (.istore_n 2, 1) := by decide +kernel
theorem dX9_passTicks_2 : decode cX9_passTicks 2 = .ok (.iconst 0, 1) := by decide +kernel
theorem dX9_passTicks_3 : decode cX9_passTicks 3 = .ok (.istore_n 3, 1) := by decide +kernel
theorem dX9_passTicks_4 : decode cX9_passTicks 4 = .ok (.iload_n 3, 1) := by decide +kernel
theorem dX9_passTicks_5 : decode cX9_passTicks 5 = .ok (.iload_n 1, 1) := by decide +kernel
theorem dX9_passTicks_6 : decode cX9_passTicks 6 = .ok (.if_icmp .ge 19, 3) := by decide +kernel
theorem dX9_passTicks_9 : decode cX9_passTicks 9 = .ok (.aload_n 0, 1) := by decide +kernel
theorem dX9_passTicks_10 : decode cX9_passTicks 10 = .ok (.invokevirtual 90, 3) := by decide +kernel
theorem dX9_passTicks_13 : decode cX9_passTicks 13 = .ok (.ifCond .eq 6, 3) := by decide +kernel
theorem dX9_passTicks_16 : decode cX9_passTicks 16 = .ok (.iinc 2 1, 3) := by decide +kernel
theorem dX9_passTicks_19 : decode cX9_passTicks 19 = .ok (.iinc 3 1, 3) := by decide +kernel
theorem dX9_passTicks_22 : decode cX9_passTicks 22 = .ok (.goto (-18), 3) := by decide +kernel
theorem dX9_passTicks_25 : decode cX9_passTicks 25 = .ok (.iload_n 2, 1) := by decide +kernel
theorem dX9_passTicks_26 : decode cX9_passTicks 26 = .ok (.ireturn, 1) := by decide +kernel
theorem dX9_passTick_0 : decode cX9_passTick 0 = .ok (.aload_n 0, 1) := by decide +kernel
theorem dX9_passTick_1 : decode cX9_passTick 1 = .ok (.getfield 18, 3) := by decide +kernel
theorem dX9_passTick_4 : decode cX9_passTick 4 = .ok (.aload_n 0, 1) := by decide +kernel
theorem dX9_passTick_5 : decode cX9_passTick 5 = .ok (.getfield 83, 3) := by decide +kernel
theorem dX9_passTick_8 : decode cX9_passTick 8 = .ok (.invokevirtual 94, 3) := by decide +kernel
theorem dX9_passTick_11 : decode cX9_passTick 11 = .ok (.istore_n 1, 1) := by decide +kernel
theorem dX9_passTick_12 : decode cX9_passTick 12 = .ok (.aload_n 0, 1) := by decide +kernel
theorem dX9_passTick_13 : decode cX9_passTick 13 = .ok (.dup, 1) := by decide +kernel
theorem dX9_passTick_14 : decode cX9_passTick 14 = .ok (.getfield 87, 3) := by decide +kernel
theorem dX9_passTick_17 : decode cX9_passTick 17 = .ok (.iload_n 1, 1) := by decide +kernel
theorem dX9_passTick_18 : decode cX9_passTick 18 = .ok (.iadd, 1) := by decide +kernel
theorem dX9_passTick_19 : decode cX9_passTick 19 = .ok (.putfield 87, 3) := by decide +kernel
theorem dX9_passTick_22 : decode cX9_passTick 22 = .ok (.aload_n 0, 1) := by decide +kernel
theorem dX9_passTick_23 : decode cX9_passTick 23 = .ok (.getfield 25, 3) := by decide +kernel
theorem dX9_passTick_26 : decode cX9_passTick 26 = .ok (.iload_n 1, 1) := by decide +kernel
theorem dX9_passTick_27 : decode cX9_passTick 27 = .ok (.aload_n 0, 1) := by decide +kernel
theorem dX9_passTick_28 : decode cX9_passTick 28 = .ok (.getfield 9, 3) := by decide +kernel
theorem dX9_passTick_31 : decode cX9_passTick 31 = .ok (.iconst 2, 1) := by decide +kernel
theorem dX9_passTick_32 : decode cX9_passTick 32 = .ok (.iaload, 1) := by decide +kernel
theorem dX9_passTick_33 : decode cX9_passTick 33 = .ok (.aload_n 0, 1) := by decide +kernel
theorem dX9_passTick_34 : decode cX9_passTick 34 = .ok (.getfield 9, 3) := by decide +kernel
theorem dX9_passTick_37 : decode cX9_passTick 37 = .ok (.iconst 3, 1) := by decide +kernel
theorem dX9_passTick_38 : decode cX9_passTick 38 = .ok (.iaload, 1) := by decide +kernel
theorem dX9_passTick_39 : decode cX9_passTick 39 = .ok (.invokevirtual 98, 3) := by decide +kernel
theorem dX9_passTick_42 : decode cX9_passTick 42 = .ok (.istore_n 2, 1) := by decide +kernel
theorem dX9_passTick_43 : decode cX9_passTick 43 = .ok (.aload_n 0, 1) := by decide +kernel
theorem dX9_passTick_44 : decode cX9_passTick 44 = .ok (.getfield 32, 3) := by decide +kernel
theorem dX9_passTick_47 : decode cX9_passTick 47 = .ok (.iload_n 2, 1) := by decide +kernel
theorem dX9_passTick_48 : decode cX9_passTick 48 = .ok (.iload_n 1, 1) := by decide +kernel
theorem dX9_passTick_49 : decode cX9_passTick 49 = .ok (.ifCond .ne 7, 3) := by decide +kernel
theorem dX9_passTick_52 : decode cX9_passTick 52 = .ok (.iconst 1, 1) := by decide +kernel
theorem dX9_passTick_53 : decode cX9_passTick 53 = .ok (.goto 4, 3) := by decide +kernel
theorem dX9_passTick_56 : decode cX9_passTick 56 = .ok (.iconst 0, 1) := by decide +kernel
theorem dX9_passTick_57 : decode cX9_passTick 57 = .ok (.aload_n 0, 1) := by decide +kernel
theorem dX9_passTick_58 : decode cX9_passTick 58 = .ok (.getfield 9, 3) := by decide +kernel
theorem dX9_passTick_61 : decode cX9_passTick 61 = .ok (.iconst 0, 1) := by decide +kernel
theorem dX9_passTick_62 : decode cX9_passTick 62 = .ok (.iaload, 1) := by decide +kernel
theorem dX9_passTick_63 : decode cX9_passTick 63 = .ok (.aload_n 0, 1) := by decide +kernel
theorem dX9_passTick_64 : decode cX9_passTick 64 = .ok (.getfield 9, 3) := by decide +kernel
theorem dX9_passTick_67 : decode cX9_passTick 67 = .ok (.iconst 1, 1) := by decide +kernel
theorem dX9_passTick_68 : decode cX9_passTick 68 = .ok (.iaload, 1) := by decide +kernel
theorem dX9_passTick_69 : decode cX9_passTick 69 = .ok (.aload_n 0, 1) := by decide +kernel
theorem dX9_passTick_70 : decode cX9_passTick 70 = .ok (.getfield 9, 3) := by decide +kernel
theorem dX9_passTick_73 : decode cX9_passTick 73 = .ok (.iconst 4, 1) := by decide +kernel
theorem dX9_passTick_74 : decode cX9_passTick 74 = .ok (.iaload, 1) := by decide +kernel
theorem dX9_passTick_75 : decode cX9_passTick 75 = .ok (.invokevirtual 101, 3) := by decide +kernel
theorem dX9_passTick_78 : decode cX9_passTick 78 = .ok (.istore_n 3, 1) := by decide +kernel
theorem dX9_passTick_79 : decode cX9_passTick 79 = .ok (.iload_n 3, 1) := by decide +kernel
theorem dX9_passTick_80 : decode cX9_passTick 80 = .ok (.iconst (-1), 1) := by decide +kernel
theorem dX9_passTick_81 : decode cX9_passTick 81 = .ok (.if_icmp .eq 19, 3) := by decide +kernel
theorem dX9_passTick_84 : decode cX9_passTick 84 = .ok (.aload_n 0, 1) := by decide +kernel
theorem dX9_passTick_85 : decode cX9_passTick 85 = .ok (.getfield 53, 3) := by decide +kernel
theorem dX9_passTick_88 : decode cX9_passTick 88 = .ok (.aload_n 0, 1) := by decide +kernel
theorem dX9_passTick_89 : decode cX9_passTick 89 = .ok (.getfield 83, 3) := by decide +kernel
theorem dX9_passTick_92 : decode cX9_passTick 92 = .ok (.aload_n 0, 1) := by decide +kernel
theorem dX9_passTick_93 : decode cX9_passTick 93 = .ok (.invokevirtual 104, 3) := by decide +kernel
theorem dX9_passTick_96 : decode cX9_passTick 96 = .ok (.iload_n 3, 1) := by decide +kernel
theorem dX9_passTick_97 : decode cX9_passTick 97 = .ok (.invokevirtual 108, 3) := by decide +kernel
theorem dX9_passTick_100 : decode cX9_passTick 100 = .ok (.aload_n 0, 1) := by decide +kernel
theorem dX9_passTick_101 : decode cX9_passTick 101 = .ok (.getfield 39, 3) := by decide +kernel
theorem dX9_passTick_104 : decode cX9_passTick 104 = .ok (.invokevirtual 112, 3) := by decide +kernel
theorem dX9_passTick_107 : decode cX9_passTick 107 = .ok (.aload_n 0, 1) := by decide +kernel
theorem dX9_passTick_108 : decode cX9_passTick 108 = .ok (.dup, 1) := by decide +kernel
theorem dX9_passTick_109 : decode cX9_passTick 109 = .ok (.getfield 83, 3) := by decide +kernel
theorem dX9_passTick_112 : decode cX9_passTick 112 = .ok (.iconst 1, 1) := by decide +kernel
theorem dX9_passTick_113 : decode cX9_passTick 113 = .ok (.iadd, 1) := by decide +kernel
theorem dX9_passTick_114 : decode cX9_passTick 114 = .ok (.putfield 83, 3) := by decide +kernel
theorem dX9_passTick_117 : decode cX9_passTick 117 = .ok (.aload_n 0, 1) := by decide +kernel
theorem dX9_passTick_118 : decode cX9_passTick 118 = .ok (.getfield 18, 3) := by decide +kernel
theorem dX9_passTick_121 : decode cX9_passTick 121 = .ok (.aload_n 0, 1) := by decide +kernel
theorem dX9_passTick_122 : decode cX9_passTick 122 = .ok (.getfield 83, 3) := by decide +kernel
theorem dX9_passTick_125 : decode cX9_passTick 125 = .ok (.invokevirtual 114, 3) := by decide +kernel
theorem dX9_passTick_128 : decode cX9_passTick 128 = .ok (.iload_n 3, 1) := by decide +kernel
theorem dX9_passTick_129 : decode cX9_passTick 129 = .ok (.iconst (-1), 1) := by decide +kernel
theorem dX9_passTick_130 : decode cX9_passTick 130 = .ok (.if_icmp .eq 7, 3) := by decide +kernel
theorem dX9_passTick_133 : decode cX9_passTick 133 = .ok (.iconst 1, 1) := by decide +kernel
theorem dX9_passTick_134 : decode cX9_passTick 134 = .ok (.goto 4, 3) := by decide +kernel
theorem dX9_passTick_137 : decode cX9_passTick 137 = .ok (.iconst 0, 1) := by decide +kernel
theorem dX9_passTick_138 : decode cX9_passTick 138 = .ok (.ireturn, 1) := by decide +kernel
theorem dX9_drumPlace_0 : decode cX9_drumPlace 0 = .ok (.aload_n 0, 1) := by decide +kernel
theorem dX9_drumPlace_1 : decode cX9_drumPlace 1 = .ok (.getfield 46, 3) := by decide +kernel
theorem dX9_drumPlace_4 : decode cX9_drumPlace 4 = .ok (.aload_n 0, 1) := by decide +kernel
theorem dX9_drumPlace_5 : decode cX9_drumPlace 5 = .ok (.getfield 39, 3) := by decide +kernel
theorem dX9_drumPlace_8 : decode cX9_drumPlace 8 = .ok (.getfield 118, 3) := by decide +kernel
theorem dX9_drumPlace_11 : decode cX9_drumPlace 11 = .ok (.aload_n 0, 1) := by decide +kernel
theorem dX9_drumPlace_12 : decode cX9_drumPlace 12 = .ok (.getfield 9, 3) := by decide +kernel
theorem dX9_drumPlace_15 : decode cX9_drumPlace 15 = .ok (.iconst 5, 1) := by decide +kernel
theorem dX9_drumPlace_16 : decode cX9_drumPlace 16 = .ok (.iaload, 1) := by decide +kernel
theorem dX9_drumPlace_17 : decode cX9_drumPlace 17 = .ok (.invokevirtual 121, 3) := by decide +kernel
theorem dX9_drumPlace_20 : decode cX9_drumPlace 20 = .ok (.ireturn, 1) := by decide +kernel
theorem dX9_accountOf_0 : decode cX9_accountOf 0 = .ok (.iload_n 1, 1) := by decide +kernel
theorem dX9_accountOf_1 : decode cX9_accountOf 1 = .ok (.tableswitch 60 0 3 #[31, 36, 44, 52], 31) := by decide +kernel
theorem dX9_accountOf_32 : decode cX9_accountOf 32 = .ok (.aload_n 0, 1) := by decide +kernel
theorem dX9_accountOf_33 : decode cX9_accountOf 33 = .ok (.getfield 87, 3) := by decide +kernel
theorem dX9_accountOf_36 : decode cX9_accountOf 36 = .ok (.ireturn, 1) := by decide +kernel
theorem dX9_accountOf_37 : decode cX9_accountOf 37 = .ok (.aload_n 0, 1) := by decide +kernel
theorem dX9_accountOf_38 : decode cX9_accountOf 38 = .ok (.getfield 32, 3) := by decide +kernel
theorem dX9_accountOf_41 : decode cX9_accountOf 41 = .ok (.getfield 125, 3) := by decide +kernel
theorem dX9_accountOf_44 : decode cX9_accountOf 44 = .ok (.ireturn, 1) := by decide +kernel
theorem dX9_accountOf_45 : decode cX9_accountOf 45 = .ok (.aload_n 0, 1) := by decide +kernel
theorem dX9_accountOf_46 : decode cX9_accountOf 46 = .ok (.getfield 32, 3) := by decide +kernel
theorem dX9_accountOf_49 : decode cX9_accountOf 49 = .ok (.getfield 128, 3) := by decide +kernel
theorem dX9_accountOf_52 : decode cX9_accountOf 52 = .ok (.ireturn, 1) := by decide +kernel
theorem dX9_accountOf_53 : decode cX9_accountOf 53 = .ok (.aload_n 0, 1) := by decide +kernel
theorem dX9_accountOf_54 : decode cX9_accountOf 54 = .ok (.getfield 32, 3) := by decide +kernel
theorem dX9_accountOf_57 : decode cX9_accountOf 57 = .ok (.getfield 131, 3) := by decide +kernel
theorem dX9_accountOf_60 : decode cX9_accountOf 60 = .ok (.ireturn, 1) := by decide +kernel
theorem dX9_accountOf_61 : decode cX9_accountOf 61 = .ok (.aload_n 0, 1) := by decide +kernel
theorem dX9_accountOf_62 : decode cX9_accountOf 62 = .ok (.getfield 25, 3) := by decide +kernel
theorem dX9_accountOf_65 : decode cX9_accountOf 65 = .ok (.getfield 134, 3) := by decide +kernel
theorem dX9_accountOf_68 : decode cX9_accountOf 68 = .ok (.aload_n 0, 1) := by decide +kernel
theorem dX9_accountOf_69 : decode cX9_accountOf 69 = .ok (.getfield 32, 3) := by decide +kernel
theorem dX9_accountOf_72 : decode cX9_accountOf 72 = .ok (.getfield 137, 3) := by decide +kernel
theorem dX9_accountOf_75 : decode cX9_accountOf 75 = .ok (.iadd, 1) := by decide +kernel
theorem dX9_accountOf_76 : decode cX9_accountOf 76 = .ok (.ireturn, 1) := by decide +kernel
theorem dX10_init_0 : decode cX10_init 0 = .ok (.aload_n 0, 1) := by decide +kernel
theorem dX10_init_1 : decode cX10_init 1 = .ok (.invokespecial 3, 3) := by decide +kernel
theorem dX10_init_4 : decode cX10_init 4 = .ok (.aload_n 0, 1) := by decide +kernel
theorem dX10_init_5 : decode cX10_init 5 = .ok (.bipush 100, 2) := by decide +kernel
theorem dX10_init_7 : decode cX10_init 7 = .ok (.newarray .char, 2) := by decide +kernel
theorem dX10_init_9 : decode cX10_init 9 = .ok (.putfield 9, 3) := by decide +kernel
theorem dX10_init_12 : decode cX10_init 12 = .ok (.return_, 1) := by decide +kernel
theorem dX11_init_0 : decode cX11_init 0 = .ok (.aload_n 0, 1) := by decide +kernel
theorem dX11_init_1 : decode cX11_init 1 = .ok (.invokespecial 1, 3) := by decide +kernel
theorem dX11_init_4 : decode cX11_init 4 = .ok (.aload_n 0, 1) := by decide +kernel
theorem dX11_init_5 : decode cX11_init 5 = .ok (.new 7, 3) := by decide +kernel
theorem dX11_init_8 : decode cX11_init 8 = .ok (.dup, 1) := by decide +kernel
theorem dX11_init_9 : decode cX11_init 9 = .ok (.invokespecial 9, 3) := by decide +kernel
theorem dX11_init_12 : decode cX11_init 12 = .ok (.putfield 10, 3) := by decide +kernel
theorem dX11_init_15 : decode cX11_init 15 = .ok (.aload_n 0, 1) := by decide +kernel
theorem dX11_init_16 : decode cX11_init 16 = .ok (.new 7, 3) := by decide +kernel
theorem dX11_init_19 : decode cX11_init 19 = .ok (.dup, 1) := by decide +kernel
theorem dX11_init_20 : decode cX11_init 20 = .ok (.invokespecial 9, 3) := by decide +kernel
theorem dX11_init_23 : decode cX11_init 23 = .ok (.putfield 16, 3) := by decide +kernel
theorem dX11_init_26 : decode cX11_init 26 = .ok (.aload_n 0, 1) := by decide +kernel
theorem dX11_init_27 : decode cX11_init 27 = .ok (.new 19, 3) := by decide +kernel
theorem dX11_init_30 : decode cX11_init 30 = .ok (.dup, 1) := by decide +kernel
theorem dX11_init_31 : decode cX11_init 31 = .ok (.invokespecial 21, 3) := by decide +kernel
theorem dX11_init_34 : decode cX11_init 34 = .ok (.putfield 22, 3) := by decide +kernel
theorem dX11_init_37 : decode cX11_init 37 = .ok (.aload_n 0, 1) := by decide +kernel
theorem dX11_init_38 : decode cX11_init 38 = .ok (.new 26, 3) := by decide +kernel
theorem dX11_init_41 : decode cX11_init 41 = .ok (.dup, 1) := by decide +kernel
theorem dX11_init_42 : decode cX11_init 42 = .ok (.invokespecial 28, 3) := by decide +kernel
theorem dX11_init_45 : decode cX11_init 45 = .ok (.putfield 29, 3) := by decide +kernel
theorem dX11_init_48 : decode cX11_init 48 = .ok (.aload_n 0, 1) := by decide +kernel
theorem dX11_init_49 : decode cX11_init 49 = .ok (.new 33, 3) := by decide +kernel
theorem dX11_init_52 : decode cX11_init 52 = .ok (.dup, 1) := by decide +kernel
theorem dX11_init_53 : decode cX11_init 53 = .ok (.invokespecial 35, 3) := by decide +kernel
theorem dX11_init_56 : decode cX11_init 56 = .ok (.putfield 36, 3) := by decide +kernel
theorem dX11_init_59 : decode cX11_init 59 = .ok (.aload_n 0, 1) := by decide +kernel
theorem dX11_init_60 : decode cX11_init 60 = .ok (.new 40, 3) := by decide +kernel
theorem dX11_init_63 : decode cX11_init 63 = .ok (.dup, 1) := by decide +kernel
theorem dX11_init_64 : decode cX11_init 64 = .ok (.invokespecial 42, 3) := by decide +kernel
theorem dX11_init_67 : decode cX11_init 67 = .ok (.putfield 43, 3) := by decide +kernel
theorem dX11_init_70 : decode cX11_init 70 = .ok (.return_, 1) := by decide +kernel
theorem dX11_addShower_0 : decode cX11_addShower 0 = .ok (.iload_n 1, 1) := by decide +kernel
theorem dX11_addShower_1 : decode cX11_addShower 1 = .ok (.aload_n 0, 1) := by decide +kernel
theorem dX11_addShower_2 : decode cX11_addShower 2 = .ok (.getfield 10, 3) := by decide +kernel
theorem dX11_addShower_5 : decode cX11_addShower 5 = .ok (.getfield 47, 3) := by decide +kernel
theorem dX11_addShower_8 : decode cX11_addShower 8 = .ok (.sipush 5000, 3) := by decide +kernel
theorem dX11_addShower_11 : decode cX11_addShower 11 = .ok (.invokestatic 51, 3) := by decide +kernel
theorem dX11_addShower_14 : decode cX11_addShower 14 = .ok (.ifCond .eq 25, 3) := by decide +kernel
theorem dX11_addShower_17 : decode cX11_addShower 17 = .ok (.iload_n 2, 1) := by decide +kernel
theorem dX11_addShower_18 : decode cX11_addShower 18 = .ok (.iconst 1, 1) := by decide +kernel
theorem dX11_addShower_19 : decode cX11_addShower 19 = .ok (.sipush 500, 3) := by decide +kernel
theorem dX11_addShower_22 : decode cX11_addShower 22 = .ok (.invokestatic 51, 3) := by decide +kernel
theorem dX11_addShower_25 : decode cX11_addShower 25 = .ok (.ifCond .eq 14, 3) := by decide +kernel
theorem dX11_addShower_28 : decode cX11_addShower 28 = .ok (.iload_n 3, 1) := by decide +kernel
theorem dX11_addShower_29 : decode cX11_addShower 29 = .ok (.iconst 1, 1) := by decide +kernel
theorem dX11_addShower_30 : decode cX11_addShower 30 = .ok (.sipush 200, 3) := by decide +kernel
theorem dX11_addShower_33 : decode cX11_addShower 33 = .ok (.invokestatic 51, 3) := by decide +kernel
theorem dX11_addShower_36 : decode cX11_addShower 36 = .ok (.ifCond .ne 5, 3) := by decide +kernel
theorem dX11_addShower_39 : decode cX11_addShower 39 = .ok (.iconst (-1), 1) := by decide +kernel
theorem dX11_addShower_40 : decode cX11_addShower 40 = .ok (.ireturn, 1) := by decide +kernel
theorem dX11_addShower_41 : decode cX11_addShower 41 = .ok (.aload_n 0, 1) := by decide +kernel
theorem dX11_addShower_42 : decode cX11_addShower 42 = .ok (.getfield 10, 3) := by decide +kernel
theorem dX11_addShower_45 : decode cX11_addShower 45 = .ok (.getfield 55, 3) := by decide +kernel
theorem dX11_addShower_48 : decode cX11_addShower 48 = .ok (.getfield 59, 3) := by decide +kernel
theorem dX11_addShower_51 : decode cX11_addShower 51 = .ok (.bipush 12, 2) := by decide +kernel
theorem dX11_addShower_53 : decode cX11_addShower 53 = .ok (.if_icmp .lt 6, 3) := by decide +kernel
theorem dX11_addShower_56 : decode cX11_addShower 56 = .ok (.bipush (-3), 2) := by decide +kernel
theorem dX11_addShower_58 : decode cX11_addShower 58 = .ok (.ireturn, 1) := by decide +kernel
theorem dX11_addShower_59 : decode cX11_addShower 59 = .ok (.aload_n 0, 1) := by decide +kernel
theorem dX11_addShower_60 : decode cX11_addShower 60 = .ok (.getfield 22, 3) := by decide +kernel
theorem dX11_addShower_63 : decode cX11_addShower 63 = .ok (.aload_n 0, 1) := by decide +kernel
theorem dX11_addShower_64 : decode cX11_addShower 64 = .ok (.getfield 10, 3) := by decide +kernel
theorem dX11_addShower_67 : decode cX11_addShower 67 = .ok (.invokevirtual 64, 3) := by decide +kernel
theorem dX11_addShower_70 : decode cX11_addShower 70 = .ok (.aload_n 0, 1) := by decide +kernel
theorem dX11_addShower_71 : decode cX11_addShower 71 = .ok (.getfield 10, 3) := by decide +kernel
theorem dX11_addShower_74 : decode cX11_addShower 74 = .ok (.getfield 55, 3) := by decide +kernel
theorem dX11_addShower_77 : decode cX11_addShower 77 = .ok (.iload_n 1, 1) := by decide +kernel
theorem dX11_addShower_78 : decode cX11_addShower 78 = .ok (.iload_n 2, 1) := by decide +kernel
theorem dX11_addShower_79 : decode cX11_addShower 79 = .ok (.iload_n 3, 1) := by decide +kernel
theorem dX11_addShower_80 : decode cX11_addShower 80 = .ok (.invokevirtual 68, 3) := by decide +kernel
theorem dX11_addShower_83 : decode cX11_addShower 83 = .ok (.ireturn, 1) := by decide +kernel
theorem dX11_shower_0 : decode cX11_shower 0 = .ok (.aload_n 0, 1) := by decide +kernel
theorem dX11_shower_1 : decode cX11_shower 1 = .ok (.getfield 10, 3) := by decide +kernel
theorem dX11_shower_4 : decode cX11_shower 4 = .ok (.getfield 55, 3) := by decide +kernel
theorem dX11_shower_7 : decode cX11_shower 7 = .ok (.iload_n 1, 1) := by decide +kernel
theorem dX11_shower_8 : decode cX11_shower 8 = .ok (.invokevirtual 72, 3) := by decide +kernel
theorem dX11_shower_11 : decode cX11_shower 11 = .ok (.ifCond .ne 5, 3) := by decide +kernel
theorem dX11_shower_14 : decode cX11_shower 14 = .ok (.iconst (-1), 1) := by decide +kernel
theorem dX11_shower_15 : decode cX11_shower 15 = .ok (.ireturn, 1) := by decide +kernel
theorem dX11_shower_16 : decode cX11_shower 16 = .ok (.iload_n 2, 1) := by decide +kernel
theorem dX11_shower_17 : decode cX11_shower 17 = .ok (.tableswitch 89 0 3 #[31, 44, 57, 70], 31) := by decide +kernel
theorem dX11_shower_48 : decode cX11_shower 48 = .ok (.aload_n 0, 1) := by decide +kernel
theorem dX11_shower_49 : decode cX11_shower 49 = .ok (.getfield 10, 3) := by decide +kernel
theorem dX11_shower_52 : decode cX11_shower 52 = .ok (.getfield 55, 3) := by decide +kernel
theorem dX11_shower_55 : decode cX11_shower 55 = .ok (.getfield 76, 3) := by decide +kernel
theorem dX11_shower_58 : decode cX11_shower 58 = .ok (.iload_n 1, 1) := by decide +kernel
theorem dX11_shower_59 : decode cX11_shower 59 = .ok (.iaload, 1) := by decide +kernel
theorem dX11_shower_60 : decode cX11_shower 60 = .ok (.ireturn, 1) := by decide +kernel
theorem dX11_shower_61 : decode cX11_shower 61 = .ok (.aload_n 0, 1) := by decide +kernel
theorem dX11_shower_62 : decode cX11_shower 62 = .ok (.getfield 10, 3) := by decide +kernel
theorem dX11_shower_65 : decode cX11_shower 65 = .ok (.getfield 55, 3) := by decide +kernel
theorem dX11_shower_68 : decode cX11_shower 68 = .ok (.getfield 84, 3) := by decide +kernel
theorem dX11_shower_71 : decode cX11_shower 71 = .ok (.iload_n 1, 1) := by decide +kernel
theorem dX11_shower_72 : decode cX11_shower 72 = .ok (.iaload, 1) := by decide +kernel
theorem dX11_shower_73 : decode cX11_shower 73 = .ok (.ireturn, 1) := by decide +kernel
theorem dX11_shower_74 : decode cX11_shower 74 = .ok (.aload_n 0, 1) := by decide +kernel
theorem dX11_shower_75 : decode cX11_shower 75 = .ok (.getfield 10, 3) := by decide +kernel
theorem dX11_shower_78 : decode cX11_shower 78 = .ok (.getfield 55, 3) := by decide +kernel
theorem dX11_shower_81 : decode cX11_shower 81 = .ok (.getfield 87, 3) := by decide +kernel
theorem dX11_shower_84 : decode cX11_shower 84 = .ok (.iload_n 1, 1) := by decide +kernel
theorem dX11_shower_85 : decode cX11_shower 85 = .ok (.iaload, 1) := by decide +kernel
theorem dX11_shower_86 : decode cX11_shower 86 = .ok (.ireturn, 1) := by decide +kernel
theorem dX11_shower_87 : decode cX11_shower 87 = .ok (.aload_n 0, 1) := by decide +kernel
theorem dX11_shower_88 : decode cX11_shower 88 = .ok (.getfield 10, 3) := by decide +kernel
theorem dX11_shower_91 : decode cX11_shower 91 = .ok (.getfield 55, 3) := by decide +kernel
end
section
theorem dX11_shower_94 : decode cX11_shower 94 = .ok (.iload_n 1, 1) := by decide +kernel
theorem dX11_shower_95 : decode cX11_shower 95 = .ok (.aload_n 0, 1) := by decide +kernel
theorem dX11_shower_96 : decode cX11_shower 96 = .ok (.getfield 10, 3) := by decide +kernel
theorem dX11_shower_99 : decode cX11_shower 99 = .ok (.getfield 47, 3) := by decide +kernel
theorem dX11_shower_102 : decode cX11_shower 102 = .ok (.invokevirtual 90, 3) := by decide +kernel
theorem dX11_shower_105 : decode cX11_shower 105 = .ok (.ireturn, 1) := by decide +kernel
theorem dX11_shower_106 : decode cX11_shower 106 = .ok (.iconst (-1), 1) := by decide +kernel
theorem dX11_shower_107 : decode cX11_shower 107 = .ok (.ireturn, 1) := by decide +kernel
theorem dX11_run_0 : decode cX11_run 0 = .ok (.aload_n 0, 1) := by decide +kernel
theorem dX11_run_1 : decode cX11_run 1 = .ok (.iload_n 1, 1) := by decide +kernel
theorem dX11_run_2 : decode cX11_run 2 = .ok (.invokevirtual 94, 3) := by decide +kernel
theorem dX11_run_5 : decode cX11_run 5 = .ok (.istore_n 2, 1) := by decide +kernel
theorem dX11_run_6 : decode cX11_run 6 = .ok (.iload_n 2, 1) := by decide +kernel
theorem dX11_run_7 : decode cX11_run 7 = .ok (.ifCond .eq 5, 3) := by decide +kernel
theorem dX11_run_10 : decode cX11_run 10 = .ok (.iload_n 2, 1) := by decide +kernel
theorem dX11_run_11 : decode cX11_run 11 = .ok (.ireturn, 1) := by decide +kernel
theorem dX11_run_12 : decode cX11_run 12 = .ok (.aload_n 0, 1) := by decide +kernel
theorem dX11_run_13 : decode cX11_run 13 = .ok (.getfield 22, 3) := by decide +kernel
theorem dX11_run_16 : decode cX11_run 16 = .ok (.aload_n 0, 1) := by decide +kernel
theorem dX11_run_17 : decode cX11_run 17 = .ok (.getfield 10, 3) := by decide +kernel
theorem dX11_run_20 : decode cX11_run 20 = .ok (.invokevirtual 64, 3) := by decide +kernel
theorem dX11_run_23 : decode cX11_run 23 = .ok (.aload_n 0, 1) := by decide +kernel
theorem dX11_run_24 : decode cX11_run 24 = .ok (.getfield 10, 3) := by decide +kernel
theorem dX11_run_27 : decode cX11_run 27 = .ok (.iload_n 1, 1) := by decide +kernel
theorem dX11_run_28 : decode cX11_run 28 = .ok (.invokevirtual 98, 3) := by decide +kernel
theorem dX11_run_31 : decode cX11_run 31 = .ok (.ireturn, 1) := by decide +kernel
theorem dX11_undo_0 : decode cX11_undo 0 = .ok (.aload_n 0, 1) := by decide +kernel
theorem dX11_undo_1 : decode cX11_undo 1 = .ok (.getfield 22, 3) := by decide +kernel
theorem dX11_undo_4 : decode cX11_undo 4 = .ok (.getfield 101, 3) := by decide +kernel
theorem dX11_undo_7 : decode cX11_undo 7 = .ok (.ifCond .ne 6, 3) := by decide +kernel
theorem dX11_undo_10 : decode cX11_undo 10 = .ok (.bipush (-2), 2) := by decide +kernel
theorem dX11_undo_12 : decode cX11_undo 12 = .ok (.ireturn, 1) := by decide +kernel
theorem dX11_undo_13 : decode cX11_undo 13 = .ok (.aload_n 0, 1) := by decide +kernel
theorem dX11_undo_14 : decode cX11_undo 14 = .ok (.getfield 22, 3) := by decide +kernel
theorem dX11_undo_17 : decode cX11_undo 17 = .ok (.aload_n 0, 1) := by decide +kernel
theorem dX11_undo_18 : decode cX11_undo 18 = .ok (.getfield 10, 3) := by decide +kernel
theorem dX11_undo_21 : decode cX11_undo 21 = .ok (.invokevirtual 102, 3) := by decide +kernel
theorem dX11_undo_24 : decode cX11_undo 24 = .ok (.aload_n 0, 1) := by decide +kernel
theorem dX11_undo_25 : decode cX11_undo 25 = .ok (.getfield 22, 3) := by decide +kernel
theorem dX11_undo_28 : decode cX11_undo 28 = .ok (.getfield 101, 3) := by decide +kernel
theorem dX11_undo_31 : decode cX11_undo 31 = .ok (.ireturn, 1) := by decide +kernel
theorem dX11_set_0 : decode cX11_set 0 = .ok (.iload_n 1, 1) := by decide +kernel
theorem dX11_set_1 : decode cX11_set 1 = .ok (.iconst 0, 1) := by decide +kernel
theorem dX11_set_2 : decode cX11_set 2 = .ok (.bipush 7, 2) := by decide +kernel
theorem dX11_set_4 : decode cX11_set 4 = .ok (.invokestatic 51, 3) := by decide +kernel
theorem dX11_set_7 : decode cX11_set 7 = .ok (.ifCond .eq 20, 3) := by decide +kernel
theorem dX11_set_10 : decode cX11_set 10 = .ok (.iload_n 2, 1) := by decide +kernel
theorem dX11_set_11 : decode cX11_set 11 = .ok (.getstatic 105, 3) := by decide +kernel
theorem dX11_set_14 : decode cX11_set 14 = .ok (.iload_n 1, 1) := by decide +kernel
theorem dX11_set_15 : decode cX11_set 15 = .ok (.iaload, 1) := by decide +kernel
theorem dX11_set_16 : decode cX11_set 16 = .ok (.getstatic 108, 3) := by decide +kernel
theorem dX11_set_19 : decode cX11_set 19 = .ok (.iload_n 1, 1) := by decide +kernel
theorem dX11_set_20 : decode cX11_set 20 = .ok (.iaload, 1) := by decide +kernel
theorem dX11_set_21 : decode cX11_set 21 = .ok (.invokestatic 51, 3) := by decide +kernel
theorem dX11_set_24 : decode cX11_set 24 = .ok (.ifCond .ne 5, 3) := by decide +kernel
theorem dX11_set_27 : decode cX11_set 27 = .ok (.iconst (-1), 1) := by decide +kernel
theorem dX11_set_28 : decode cX11_set 28 = .ok (.ireturn, 1) := by decide +kernel
theorem dX11_set_29 : decode cX11_set 29 = .ok (.aload_n 0, 1) := by decide +kernel
theorem dX11_set_30 : decode cX11_set 30 = .ok (.getfield 22, 3) := by decide +kernel
theorem dX11_set_33 : decode cX11_set 33 = .ok (.aload_n 0, 1) := by decide +kernel
theorem dX11_set_34 : decode cX11_set 34 = .ok (.getfield 10, 3) := by decide +kernel
theorem dX11_set_37 : decode cX11_set 37 = .ok (.invokevirtual 64, 3) := by decide +kernel
theorem dX11_set_40 : decode cX11_set 40 = .ok (.aload_n 0, 1) := by decide +kernel
theorem dX11_set_41 : decode cX11_set 41 = .ok (.getfield 10, 3) := by decide +kernel
theorem dX11_set_44 : decode cX11_set 44 = .ok (.getfield 111, 3) := by decide +kernel
theorem dX11_set_47 : decode cX11_set 47 = .ok (.iload_n 1, 1) := by decide +kernel
theorem dX11_set_48 : decode cX11_set 48 = .ok (.iaload, 1) := by decide +kernel
theorem dX11_set_49 : decode cX11_set 49 = .ok (.istore_n 3, 1) := by decide +kernel
theorem dX11_set_50 : decode cX11_set 50 = .ok (.aload_n 0, 1) := by decide +kernel
theorem dX11_set_51 : decode cX11_set 51 = .ok (.getfield 10, 3) := by decide +kernel
theorem dX11_set_54 : decode cX11_set 54 = .ok (.getfield 111, 3) := by decide +kernel
theorem dX11_set_57 : decode cX11_set 57 = .ok (.iload_n 1, 1) := by decide +kernel
theorem dX11_set_58 : decode cX11_set 58 = .ok (.iload_n 2, 1) := by decide +kernel
theorem dX11_set_59 : decode cX11_set 59 = .ok (.iastore, 1) := by decide +kernel
theorem dX11_set_60 : decode cX11_set 60 = .ok (.iload_n 3, 1) := by decide +kernel
theorem dX11_set_61 : decode cX11_set 61 = .ok (.ireturn, 1) := by decide +kernel
theorem dX11_wind_0 : decode cX11_wind 0 = .ok (.aload_n 0, 1) := by decide +kernel
theorem dX11_wind_1 : decode cX11_wind 1 = .ok (.getfield 22, 3) := by decide +kernel
theorem dX11_wind_4 : decode cX11_wind 4 = .ok (.aload_n 0, 1) := by decide +kernel
theorem dX11_wind_5 : decode cX11_wind 5 = .ok (.getfield 10, 3) := by decide +kernel
theorem dX11_wind_8 : decode cX11_wind 8 = .ok (.invokevirtual 64, 3) := by decide +kernel
theorem dX11_wind_11 : decode cX11_wind 11 = .ok (.aload_n 0, 1) := by decide +kernel
theorem dX11_wind_12 : decode cX11_wind 12 = .ok (.getfield 10, 3) := by decide +kernel
theorem dX11_wind_15 : decode cX11_wind 15 = .ok (.getfield 114, 3) := by decide +kernel
theorem dX11_wind_18 : decode cX11_wind 18 = .ok (.getfield 118, 3) := by decide +kernel
theorem dX11_wind_21 : decode cX11_wind 21 = .ok (.istore_n 1, 1) := by decide +kernel
theorem dX11_wind_22 : decode cX11_wind 22 = .ok (.aload_n 0, 1) := by decide +kernel
theorem dX11_wind_23 : decode cX11_wind 23 = .ok (.getfield 10, 3) := by decide +kernel
theorem dX11_wind_26 : decode cX11_wind 26 = .ok (.getfield 114, 3) := by decide +kernel
theorem dX11_wind_29 : decode cX11_wind 29 = .ok (.aload_n 0, 1) := by decide +kernel
theorem dX11_wind_30 : decode cX11_wind 30 = .ok (.getfield 10, 3) := by decide +kernel
theorem dX11_wind_33 : decode cX11_wind 33 = .ok (.getfield 111, 3) := by decide +kernel
theorem dX11_wind_36 : decode cX11_wind 36 = .ok (.bipush 6, 2) := by decide +kernel
theorem dX11_wind_38 : decode cX11_wind 38 = .ok (.iaload, 1) := by decide +kernel
theorem dX11_wind_39 : decode cX11_wind 39 = .ok (.putfield 118, 3) := by decide +kernel
theorem dX11_wind_42 : decode cX11_wind 42 = .ok (.iload_n 1, 1) := by decide +kernel
theorem dX11_wind_43 : decode cX11_wind 43 = .ok (.ireturn, 1) := by decide +kernel
theorem dX11_count_0 : decode cX11_count 0 = .ok (.iload_n 1, 1) := by decide +kernel
theorem dX11_count_1 : decode cX11_count 1 = .ok (.bipush 20, 2) := by decide +kernel
theorem dX11_count_3 : decode cX11_count 3 = .ok (.bipush 27, 2) := by decide +kernel
theorem dX11_count_5 : decode cX11_count 5 = .ok (.invokestatic 51, 3) := by decide +kernel
theorem dX11_count_8 : decode cX11_count 8 = .ok (.ifCond .eq 16, 3) := by decide +kernel
theorem dX11_count_11 : decode cX11_count 11 = .ok (.aload_n 0, 1) := by decide +kernel
theorem dX11_count_12 : decode cX11_count 12 = .ok (.getfield 10, 3) := by decide +kernel
theorem dX11_count_15 : decode cX11_count 15 = .ok (.getfield 111, 3) := by decide +kernel
theorem dX11_count_18 : decode cX11_count 18 = .ok (.iload_n 1, 1) := by decide +kernel
theorem dX11_count_19 : decode cX11_count 19 = .ok (.bipush 20, 2) := by decide +kernel
theorem dX11_count_21 : decode cX11_count 21 = .ok (.isub, 1) := by decide +kernel
theorem dX11_count_22 : decode cX11_count 22 = .ok (.iaload, 1) := by decide +kernel
theorem dX11_count_23 : decode cX11_count 23 = .ok (.ireturn, 1) := by decide +kernel
theorem dX11_count_24 : decode cX11_count 24 = .ok (.iload_n 1, 1) := by decide +kernel
theorem dX11_count_25 : decode cX11_count 25 = .ok (.tableswitch 230 0 13 #[71, 79, 90, 101, 122, 133, 144, 155, 166, 177, 185, 196, 204, 212], 71) := by decide +kernel
theorem dX11_count_96 : decode cX11_count 96 = .ok (.aload_n 0, 1) := by decide +kernel
theorem dX11_count_97 : decode cX11_count 97 = .ok (.getfield 10, 3) := by decide +kernel
theorem dX11_count_100 : decode cX11_count 100 = .ok (.getfield 47, 3) := by decide +kernel
theorem dX11_count_103 : decode cX11_count 103 = .ok (.ireturn, 1) := by decide +kernel
theorem dX11_count_104 : decode cX11_count 104 = .ok (.aload_n 0, 1) := by decide +kernel
theorem dX11_count_105 : decode cX11_count 105 = .ok (.getfield 10, 3) := by decide +kernel
theorem dX11_count_108 : decode cX11_count 108 = .ok (.getfield 55, 3) := by decide +kernel
theorem dX11_count_111 : decode cX11_count 111 = .ok (.getfield 59, 3) := by decide +kernel
theorem dX11_count_114 : decode cX11_count 114 = .ok (.ireturn, 1) := by decide +kernel
theorem dX11_count_115 : decode cX11_count 115 = .ok (.aload_n 0, 1) := by decide +kernel
theorem dX11_count_116 : decode cX11_count 116 = .ok (.getfield 10, 3) := by decide +kernel
theorem dX11_count_119 : decode cX11_count 119 = .ok (.getfield 142, 3) := by decide +kernel
theorem dX11_count_122 : decode cX11_count 122 = .ok (.getfield 146, 3) := by decide +kernel
theorem dX11_count_125 : decode cX11_count 125 = .ok (.ireturn, 1) := by decide +kernel
theorem dX11_count_126 : decode cX11_count 126 = .ok (.aload_n 0, 1) := by decide +kernel
theorem dX11_count_127 : decode cX11_count 127 = .ok (.getfield 10, 3) := by decide +kernel
theorem dX11_count_130 : decode cX11_count 130 = .ok (.getfield 142, 3) := by decide +kernel
theorem dX11_count_133 : decode cX11_count 133 = .ok (.aload_n 0, 1) := by decide +kernel
theorem dX11_count_134 : decode cX11_count 134 = .ok (.getfield 10, 3) := by decide +kernel
theorem dX11_count_137 : decode cX11_count 137 = .ok (.getfield 111, 3) := by decide +kernel
theorem dX11_count_140 : decode cX11_count 140 = .ok (.bipush 7, 2) := by decide +kernel
theorem dX11_count_142 : decode cX11_count 142 = .ok (.iaload, 1) := by decide +kernel
theorem dX11_count_143 : decode cX11_count 143 = .ok (.invokevirtual 149, 3) := by decide +kernel
theorem dX11_count_146 : decode cX11_count 146 = .ok (.ireturn, 1) := by decide +kernel
theorem dX11_count_147 : decode cX11_count 147 = .ok (.aload_n 0, 1) := by decide +kernel
theorem dX11_count_148 : decode cX11_count 148 = .ok (.getfield 10, 3) := by decide +kernel
theorem dX11_count_151 : decode cX11_count 151 = .ok (.getfield 152, 3) := by decide +kernel
theorem dX11_count_154 : decode cX11_count 154 = .ok (.getfield 156, 3) := by decide +kernel
theorem dX11_count_157 : decode cX11_count 157 = .ok (.ireturn, 1) := by decide +kernel
theorem dX11_count_158 : decode cX11_count 158 = .ok (.aload_n 0, 1) := by decide +kernel
theorem dX11_count_159 : decode cX11_count 159 = .ok (.getfield 10, 3) := by decide +kernel
theorem dX11_count_162 : decode cX11_count 162 = .ok (.getfield 161, 3) := by decide +kernel
theorem dX11_count_165 : decode cX11_count 165 = .ok (.getfield 165, 3) := by decide +kernel
theorem dX11_count_168 : decode cX11_count 168 = .ok (.ireturn, 1) := by decide +kernel
theorem dX11_count_169 : decode cX11_count 169 = .ok (.aload_n 0, 1) := by decide +kernel
theorem dX11_count_170 : decode cX11_count 170 = .ok (.getfield 10, 3) := by decide +kernel
theorem dX11_count_173 : decode cX11_count 173 = .ok (.getfield 161, 3) := by decide +kernel
theorem dX11_count_176 : decode cX11_count 176 = .ok (.getfield 168, 3) := by decide +kernel
theorem dX11_count_179 : decode cX11_count 179 = .ok (.ireturn, 1) := by decide +kernel
theorem dX11_count_180 : decode cX11_count 180 = .ok (.aload_n 0, 1) := by decide +kernel
theorem dX11_count_181 : decode cX11_count 181 = .ok (.getfield 10, 3) := by decide +kernel
theorem dX11_count_184 : decode cX11_count 184 = .ok (.getfield 114, 3) := by decide +kernel
theorem dX11_count_187 : decode cX11_count 187 = .ok (.getfield 118, 3) := by decide +kernel
theorem dX11_count_190 : decode cX11_count 190 = .ok (.ireturn, 1) := by decide +kernel
theorem dX11_count_191 : decode cX11_count 191 = .ok (.aload_n 0, 1) := by decide +kernel
theorem dX11_count_192 : decode cX11_count 192 = .ok (.getfield 10, 3) := by decide +kernel
theorem dX11_count_195 : decode cX11_count 195 = .ok (.getfield 114, 3) := by decide +kernel
theorem dX11_count_198 : decode cX11_count 198 = .ok (.getfield 171, 3) := by decide +kernel
theorem dX11_count_201 : decode cX11_count 201 = .ok (.ireturn, 1) := by decide +kernel
theorem dX11_count_202 : decode cX11_count 202 = .ok (.aload_n 0, 1) := by decide +kernel
theorem dX11_count_203 : decode cX11_count 203 = .ok (.getfield 10, 3) := by decide +kernel
theorem dX11_count_206 : decode cX11_count 206 = .ok (.invokevirtual 174, 3) := by decide +kernel
theorem dX11_count_209 : decode cX11_count 209 = .ok (.ireturn, 1) := by decide +kernel
theorem dX11_count_210 : decode cX11_count 210 = .ok (.aload_n 0, 1) := by decide +kernel
theorem dX11_count_211 : decode cX11_count 211 = .ok (.getfield 10, 3) := by decide +kernel
theorem dX11_count_214 : decode cX11_count 214 = .ok (.getfield 123, 3) := by decide +kernel
theorem dX11_count_217 : decode cX11_count 217 = .ok (.getfield 127, 3) := by decide +kernel
theorem dX11_count_220 : decode cX11_count 220 = .ok (.ireturn, 1) := by decide +kernel
theorem dX11_count_221 : decode cX11_count 221 = .ok (.aload_n 0, 1) := by decide +kernel
theorem dX11_count_222 : decode cX11_count 222 = .ok (.getfield 22, 3) := by decide +kernel
theorem dX11_count_225 : decode cX11_count 225 = .ok (.getfield 101, 3) := by decide +kernel
theorem dX11_count_228 : decode cX11_count 228 = .ok (.ireturn, 1) := by decide +kernel
theorem dX11_count_229 : decode cX11_count 229 = .ok (.aload_n 0, 1) := by decide +kernel
theorem dX11_count_230 : decode cX11_count 230 = .ok (.getfield 36, 3) := by decide +kernel
theorem dX11_count_233 : decode cX11_count 233 = .ok (.getfield 178, 3) := by decide +kernel
theorem dX11_count_236 : decode cX11_count 236 = .ok (.ireturn, 1) := by decide +kernel
theorem dX11_count_237 : decode cX11_count 237 = .ok (.aload_n 0, 1) := by decide +kernel
theorem dX11_count_238 : decode cX11_count 238 = .ok (.getfield 10, 3) := by decide +kernel
theorem dX11_count_241 : decode cX11_count 241 = .ok (.getfield 55, 3) := by decide +kernel
theorem dX11_count_244 : decode cX11_count 244 = .ok (.aload_n 0, 1) := by decide +kernel
theorem dX11_count_245 : decode cX11_count 245 = .ok (.getfield 10, 3) := by decide +kernel
theorem dX11_count_248 : decode cX11_count 248 = .ok (.getfield 47, 3) := by decide +kernel
theorem dX11_count_251 : decode cX11_count 251 = .ok (.invokevirtual 181, 3) := by decide +kernel
theorem dX11_count_254 : decode cX11_count 254 = .ok (.ireturn, 1) := by decide +kernel
theorem dX11_count_255 : decode cX11_count 255 = .ok (.iconst (-1), 1) := by decide +kernel
theorem dX11_count_256 : decode cX11_count 256 = .ok (.ireturn, 1) := by decide +kernel
theorem dX11_account_0 : decode cX11_account 0 = .ok (.iload_n 1, 1) := by decide +kernel
theorem dX11_account_1 : decode cX11_account 1 = .ok (.iconst 0, 1) := by decide +kernel
theorem dX11_account_2 : decode cX11_account 2 = .ok (.iconst 4, 1) := by decide +kernel
theorem dX11_account_3 : decode cX11_account 3 = .ok (.invokestatic 51, 3) := by decide +kernel
theorem dX11_account_6 : decode cX11_account 6 = .ok (.ifCond .eq 14, 3) := by decide +kernel
theorem dX11_account_9 : decode cX11_account 9 = .ok (.aload_n 0, 1) := by decide +kernel
theorem dX11_account_10 : decode cX11_account 10 = .ok (.getfield 10, 3) := by decide +kernel
theorem dX11_account_13 : decode cX11_account 13 = .ok (.iload_n 1, 1) := by decide +kernel
theorem dX11_account_14 : decode cX11_account 14 = .ok (.invokevirtual 184, 3) := by decide +kernel
theorem dX11_account_17 : decode cX11_account 17 = .ok (.goto 4, 3) := by decide +kernel
theorem dX11_account_20 : decode cX11_account 20 = .ok (.iconst (-1), 1) := by decide +kernel
theorem dX11_account_21 : decode cX11_account 21 = .ok (.ireturn, 1) := by decide +kernel
theorem dX11_mark_0 : decode cX11_mark 0 = .ok (.aload_n 0, 1) := by decide +kernel
theorem dX11_mark_1 : decode cX11_mark 1 = .ok (.getfield 10, 3) := by decide +kernel
theorem dX11_mark_4 : decode cX11_mark 4 = .ok (.getfield 142, 3) := by decide +kernel
theorem dX11_mark_7 : decode cX11_mark 7 = .ok (.iload_n 1, 1) := by decide +kernel
theorem dX11_mark_8 : decode cX11_mark 8 = .ok (.invokevirtual 187, 3) := by decide +kernel
theorem dX11_mark_11 : decode cX11_mark 11 = .ok (.ifCond .ne 5, 3) := by decide +kernel
theorem dX11_mark_14 : decode cX11_mark 14 = .ok (.iconst (-1), 1) := by decide +kernel
theorem dX11_mark_15 : decode cX11_mark 15 = .ok (.ireturn, 1) := by decide +kernel
theorem dX11_mark_16 : decode cX11_mark 16 = .ok (.iload_n 2, 1) := by decide +kernel
theorem dX11_mark_17 : decode cX11_mark 17 = .ok (.tableswitch 66 0 2 #[27, 40, 53], 27) := by decide +kernel
theorem dX11_mark_44 : decode cX11_mark 44 = .ok (.aload_n 0, 1) := by decide +kernel
theorem dX11_mark_45 : decode cX11_mark 45 = .ok (.getfield 10, 3) := by decide +kernel
theorem dX11_mark_48 : decode cX11_mark 48 = .ok (.getfield 142, 3) := by decide +kernel
theorem dX11_mark_51 : decode cX11_mark 51 = .ok (.getfield 188, 3) := by decide +kernel
theorem dX11_mark_54 : decode cX11_mark 54 = .ok (.iload_n 1, 1) := by decide +kernel
theorem dX11_mark_55 : decode cX11_mark 55 = .ok (.iaload, 1) := by decide +kernel
theorem dX11_mark_56 : decode cX11_mark 56 = .ok (.ireturn, 1) := by decide +kernel
theorem dX11_mark_57 : decode cX11_mark 57 = .ok (.aload_n 0, 1) := by decide +kernel
theorem dX11_mark_58 : decode cX11_mark 58 = .ok (.getfield 10, 3) := by decide +kernel
theorem dX11_mark_61 : decode cX11_mark 61 = .ok (.getfield 142, 3) := by decide +kernel
theorem dX11_mark_64 : decode cX11_mark 64 = .ok (.getfield 191, 3) := by decide +kernel
theorem dX11_mark_67 : decode cX11_mark 67 = .ok (.iload_n 1, 1) := by decide +kernel
theorem dX11_mark_68 : decode cX11_mark 68 = .ok (.iaload, 1) := by decide +kernel
theorem dX11_mark_69 : decode cX11_mark 69 = .ok (.ireturn, 1) := by decide +kernel
theorem dX11_mark_70 : decode cX11_mark 70 = .ok (.aload_n 0, 1) := by decide +kernel
theorem dX11_mark_71 : decode cX11_mark 71 = .ok (.getfield 10, 3) := by decide +kernel
theorem dX11_mark_74 : decode cX11_mark 74 = .ok (.getfield 142, 3) := by decide +kernel
theorem dX11_mark_77 : decode cX11_mark 77 = .ok (.getfield 194, 3) := by decide +kernel
theorem dX11_mark_80 : decode cX11_mark 80 = .ok (.iload_n 1, 1) := by decide +kernel
theorem dX11_mark_81 : decode cX11_mark 81 = .ok (.iaload, 1) := by decide +kernel
theorem dX11_mark_82 : decode cX11_mark 82 = .ok (.ireturn, 1) := by decide +kernel
theorem dX11_mark_83 : decode cX11_mark 83 = .ok (.iconst (-1), 1) := by decide +kernel
theorem dX11_mark_84 : decode cX11_mark 84 = .ok (.ireturn, 1) := by decide +kernel
theorem dX11_storm_0 : decode cX11_storm 0 = .ok (.aload_n 0, 1) := by decide +kernel
theorem dX11_storm_1 : decode cX11_storm 1 = .ok (.getfield 10, 3) := by decide +kernel
theorem dX11_storm_4 : decode cX11_storm 4 = .ok (.getfield 111, 3) := by decide +kernel
theorem dX11_storm_7 : decode cX11_storm 7 = .ok (.bipush 7, 2) := by decide +kernel
theorem dX11_storm_9 : decode cX11_storm 9 = .ok (.iaload, 1) := by decide +kernel
theorem dX11_storm_10 : decode cX11_storm 10 = .ok (.istore_n 3, 1) := by decide +kernel
theorem dX11_storm_11 : decode cX11_storm 11 = .ok (.aload_n 0, 1) := by decide +kernel
theorem dX11_storm_12 : decode cX11_storm 12 = .ok (.getfield 10, 3) := by decide +kernel
theorem dX11_storm_15 : decode cX11_storm 15 = .ok (.getfield 142, 3) := by decide +kernel
theorem dX11_storm_18 : decode cX11_storm 18 = .ok (.iload_n 1, 1) := by decide +kernel
theorem dX11_storm_19 : decode cX11_storm 19 = .ok (.iload_n 3, 1) := by decide +kernel
theorem dX11_storm_20 : decode cX11_storm 20 = .ok (.invokevirtual 197, 3) := by decide +kernel
theorem dX11_storm_23 : decode cX11_storm 23 = .ok (.istore 4, 2) := by decide +kernel
theorem dX11_storm_25 : decode cX11_storm 25 = .ok (.iload 4, 2) := by decide +kernel
theorem dX11_storm_27 : decode cX11_storm 27 = .ok (.iconst (-1), 1) := by decide +kernel
theorem dX11_storm_28 : decode cX11_storm 28 = .ok (.if_icmp .ne 5, 3) := by decide +kernel
theorem dX11_storm_31 : decode cX11_storm 31 = .ok (.iconst (-1), 1) := by decide +kernel
theorem dX11_storm_32 : decode cX11_storm 32 = .ok (.ireturn, 1) := by decide +kernel
theorem dX11_storm_33 : decode cX11_storm 33 = .ok (.aload_n 0, 1) := by decide +kernel
theorem dX11_storm_34 : decode cX11_storm 34 = .ok (.getfield 10, 3) := by decide +kernel
theorem dX11_storm_37 : decode cX11_storm 37 = .ok (.getfield 142, 3) := by decide +kernel
theorem dX11_storm_40 : decode cX11_storm 40 = .ok (.iload 4, 2) := by decide +kernel
theorem dX11_storm_42 : decode cX11_storm 42 = .ok (.iload_n 3, 1) := by decide +kernel
theorem dX11_storm_43 : decode cX11_storm 43 = .ok (.invokevirtual 200, 3) := by decide +kernel
theorem dX11_storm_46 : decode cX11_storm 46 = .ok (.istore 5, 2) := by decide +kernel
theorem dX11_storm_48 : decode cX11_storm 48 = .ok (.iload_n 2, 1) := by decide +kernel
theorem dX11_storm_49 : decode cX11_storm 49 = .ok (.tableswitch 98 0 5 #[39, 42, 48, 65, 74, 83], 39) := by decide +kernel
theorem dX11_storm_88 : decode cX11_storm 88 = .ok (.iload 4, 2) := by decide +kernel
theorem dX11_storm_90 : decode cX11_storm 90 = .ok (.ireturn, 1) := by decide +kernel
theorem dX11_storm_91 : decode cX11_storm 91 = .ok (.iload 5, 2) := by decide +kernel
theorem dX11_storm_93 : decode cX11_storm 93 = .ok (.iload 4, 2) := by decide +kernel
theorem dX11_storm_95 : decode cX11_storm 95 = .ok (.isub, 1) := by decide +kernel
theorem dX11_storm_96 : decode cX11_storm 96 = .ok (.ireturn, 1) := by decide +kernel
theorem dX11_storm_97 : decode cX11_storm 97 = .ok (.aload_n 0, 1) := by decide +kernel
theorem dX11_storm_98 : decode cX11_storm 98 = .ok (.getfield 10, 3) := by decide +kernel
theorem dX11_storm_101 : decode cX11_storm 101 = .ok (.getfield 142, 3) := by decide +kernel
theorem dX11_storm_104 : decode cX11_storm 104 = .ok (.iload 4, 2) := by decide +kernel
theorem dX11_storm_106 : decode cX11_storm 106 = .ok (.iload 5, 2) := by decide +kernel
theorem dX11_storm_108 : decode cX11_storm 108 = .ok (.iconst 1, 1) := by decide +kernel
theorem dX11_storm_109 : decode cX11_storm 109 = .ok (.isub, 1) := by decide +kernel
theorem dX11_storm_110 : decode cX11_storm 110 = .ok (.invokevirtual 203, 3) := by decide +kernel
theorem dX11_storm_113 : decode cX11_storm 113 = .ok (.ireturn, 1) := by decide +kernel
theorem dX11_storm_114 : decode cX11_storm 114 = .ok (.aload_n 0, 1) := by decide +kernel
theorem dX11_storm_115 : decode cX11_storm 115 = .ok (.iload 4, 2) := by decide +kernel
theorem dX11_storm_117 : decode cX11_storm 117 = .ok (.iload 5, 2) := by decide +kernel
theorem dX11_storm_119 : decode cX11_storm 119 = .ok (.invokevirtual 206, 3) := by decide +kernel
theorem dX11_storm_122 : decode cX11_storm 122 = .ok (.ireturn, 1) := by decide +kernel
theorem dX11_storm_123 : decode cX11_storm 123 = .ok (.aload_n 0, 1) := by decide +kernel
theorem dX11_storm_124 : decode cX11_storm 124 = .ok (.iload 4, 2) := by decide +kernel
theorem dX11_storm_126 : decode cX11_storm 126 = .ok (.iload 5, 2) := by decide +kernel
theorem dX11_storm_128 : decode cX11_storm 128 = .ok (.invokevirtual 209, 3) := by decide +kernel
theorem dX11_storm_131 : decode cX11_storm 131 = .ok (.ireturn, 1) := by decide +kernel
theorem dX11_storm_132 : decode cX11_storm 132 = .ok (.aload_n 0, 1) := by decide +kernel
theorem dX11_storm_133 : decode cX11_storm 133 = .ok (.getfield 10, 3) := by decide +kernel
theorem dX11_storm_136 : decode cX11_storm 136 = .ok (.getfield 142, 3) := by decide +kernel
theorem dX11_storm_139 : decode cX11_storm 139 = .ok (.iload 4, 2) := by decide +kernel
theorem dX11_storm_141 : decode cX11_storm 141 = .ok (.iload 5, 2) := by decide +kernel
theorem dX11_storm_143 : decode cX11_storm 143 = .ok (.invokevirtual 212, 3) := by decide +kernel
theorem dX11_storm_146 : decode cX11_storm 146 = .ok (.ireturn, 1) := by decide +kernel
theorem dX11_storm_147 : decode cX11_storm 147 = .ok (.iconst (-1), 1) := by decide +kernel
theorem dX11_storm_148 : decode cX11_storm 148 = .ok (.ireturn, 1) := by decide +kernel
theorem dX11_greatestStorm_0 : decode cX11_greatestStorm 0 = .ok (.aload_n 0, 1) := by decide +kernel
theorem dX11_greatestStorm_1 : decode cX11_greatestStorm 1 = .ok (.getfield 10, 3) := by decide +kernel
theorem dX11_greatestStorm_4 : decode cX11_greatestStorm 4 = .ok (.getfield 111, 3) := by decide +kernel
theorem dX11_greatestStorm_7 : decode cX11_greatestStorm 7 = .ok (.bipush 7, 2) := by decide +kernel
theorem dX11_greatestStorm_9 : decode cX11_greatestStorm 9 = .ok (.iaload, 1) := by decide +kernel
theorem dX11_greatestStorm_10 : decode cX11_greatestStorm 10 = .ok (.istore_n 1, 1) := by decide +kernel
theorem dX11_greatestStorm_11 : decode cX11_greatestStorm 11 = .ok (.aload_n 0, 1) := by decide +kernel
theorem dX11_greatestStorm_12 : decode cX11_greatestStorm 12 = .ok (.getfield 10, 3) := by decide +kernel
theorem dX11_greatestStorm_15 : decode cX11_greatestStorm 15 = .ok (.getfield 142, 3) := by decide +kernel
theorem dX11_greatestStorm_18 : decode cX11_greatestStorm 18 = .ok (.iload_n 1, 1) := by decide +kernel
theorem dX11_greatestStorm_19 : decode cX11_greatestStorm 19 = .ok (.invokevirtual 149, 3) := by decide +kernel
theorem dX11_greatestStorm_22 : decode cX11_greatestStorm 22 = .ok (.istore_n 2, 1) := by decide +kernel
theorem dX11_greatestStorm_23 : decode cX11_greatestStorm 23 = .ok (.bipush (-4), 2) := by decide +kernel
theorem dX11_greatestStorm_25 : decode cX11_greatestStorm 25 = .ok (.istore_n 3, 1) := by decide +kernel
theorem dX11_greatestStorm_26 : decode cX11_greatestStorm 26 = .ok (.iconst (-1), 1) := by decide +kernel
theorem dX11_greatestStorm_27 : decode cX11_greatestStorm 27 = .ok (.istore 4, 2) := by decide +kernel
theorem dX11_greatestStorm_29 : decode cX11_greatestStorm 29 = .ok (.iconst 0, 1) := by decide +kernel
theorem dX11_greatestStorm_30 : decode cX11_greatestStorm 30 = .ok (.istore 5, 2) := by decide +kernel
theorem dX11_greatestStorm_32 : decode cX11_greatestStorm 32 = .ok (.iload 5, 2) := by decide +kernel
theorem dX11_greatestStorm_34 : decode cX11_greatestStorm 34 = .ok (.iload_n 2, 1) := by decide +kernel
theorem dX11_greatestStorm_35 : decode cX11_greatestStorm 35 = .ok (.if_icmp .ge 72, 3) := by decide +kernel
theorem dX11_greatestStorm_38 : decode cX11_greatestStorm 38 = .ok (.aload_n 0, 1) := by decide +kernel
theorem dX11_greatestStorm_39 : decode cX11_greatestStorm 39 = .ok (.getfield 10, 3) := by decide +kernel
theorem dX11_greatestStorm_42 : decode cX11_greatestStorm 42 = .ok (.getfield 142, 3) := by decide +kernel
theorem dX11_greatestStorm_45 : decode cX11_greatestStorm 45 = .ok (.iload 5, 2) := by decide +kernel
theorem dX11_greatestStorm_47 : decode cX11_greatestStorm 47 = .ok (.iload_n 1, 1) := by decide +kernel
theorem dX11_greatestStorm_48 : decode cX11_greatestStorm 48 = .ok (.invokevirtual 197, 3) := by decide +kernel
theorem dX11_greatestStorm_51 : decode cX11_greatestStorm 51 = .ok (.istore 6, 2) := by decide +kernel
theorem dX11_greatestStorm_53 : decode cX11_greatestStorm 53 = .ok (.aload_n 0, 1) := by decide +kernel
theorem dX11_greatestStorm_54 : decode cX11_greatestStorm 54 = .ok (.getfield 10, 3) := by decide +kernel
theorem dX11_greatestStorm_57 : decode cX11_greatestStorm 57 = .ok (.getfield 142, 3) := by decide +kernel
theorem dX11_greatestStorm_60 : decode cX11_greatestStorm 60 = .ok (.iload 6, 2) := by decide +kernel
theorem dX11_greatestStorm_62 : decode cX11_greatestStorm 62 = .ok (.iload_n 1, 1) := by decide +kernel
theorem dX11_greatestStorm_63 : decode cX11_greatestStorm 63 = .ok (.invokevirtual 200, 3) := by decide +kernel
theorem dX11_greatestStorm_66 : decode cX11_greatestStorm 66 = .ok (.istore 7, 2) := by decide +kernel
theorem dX11_greatestStorm_68 : decode cX11_greatestStorm 68 = .ok (.aload_n 0, 1) := by decide +kernel
theorem dX11_greatestStorm_69 : decode cX11_greatestStorm 69 = .ok (.iload 6, 2) := by decide +kernel
theorem dX11_greatestStorm_71 : decode cX11_greatestStorm 71 = .ok (.iload 7, 2) := by decide +kernel
theorem dX11_greatestStorm_73 : decode cX11_greatestStorm 73 = .ok (.invokevirtual 206, 3) := by decide +kernel
theorem dX11_greatestStorm_76 : decode cX11_greatestStorm 76 = .ok (.aload_n 0, 1) := by decide +kernel
theorem dX11_greatestStorm_77 : decode cX11_greatestStorm 77 = .ok (.iload 6, 2) := by decide +kernel
theorem dX11_greatestStorm_79 : decode cX11_greatestStorm 79 = .ok (.iload 7, 2) := by decide +kernel
theorem dX11_greatestStorm_81 : decode cX11_greatestStorm 81 = .ok (.invokevirtual 209, 3) := by decide +kernel
theorem dX11_greatestStorm_84 : decode cX11_greatestStorm 84 = .ok (.iadd, 1) := by decide +kernel
theorem dX11_greatestStorm_85 : decode cX11_greatestStorm 85 = .ok (.istore 8, 2) := by decide +kernel
theorem dX11_greatestStorm_87 : decode cX11_greatestStorm 87 = .ok (.iload 8, 2) := by decide +kernel
theorem dX11_greatestStorm_89 : decode cX11_greatestStorm 89 = .ok (.iload 4, 2) := by decide +kernel
theorem dX11_greatestStorm_91 : decode cX11_greatestStorm 91 = .ok (.if_icmp .le 10, 3) := by decide +kernel
theorem dX11_greatestStorm_94 : decode cX11_greatestStorm 94 = .ok (.iload 8, 2) := by decide +kernel
theorem dX11_greatestStorm_96 : decode cX11_greatestStorm 96 = .ok (.istore 4, 2) := by decide +kernel
theorem dX11_greatestStorm_98 : decode cX11_greatestStorm 98 = .ok (.iload 5, 2) := by decide +kernel
theorem dX11_greatestStorm_100 : decode cX11_greatestStorm 100 = .ok (.istore_n 3, 1) := by decide +kernel
theorem dX11_greatestStorm_101 : decode cX11_greatestStorm 101 = .ok (.iinc 5 1, 3) := by decide +kernel
theorem dX11_greatestStorm_104 : decode cX11_greatestStorm 104 = .ok (.goto (-72), 3) := by decide +kernel
theorem dX11_greatestStorm_107 : decode cX11_greatestStorm 107 = .ok (.iload_n 3, 1) := by decide +kernel
theorem dX11_greatestStorm_108 : decode cX11_greatestStorm 108 = .ok (.ireturn, 1) := by decide +kernel
theorem dX11_gapForOne_0 : decode cX11_gapForOne 0 = .ok (.aload_n 0, 1) := by decide +kernel
theorem dX11_gapForOne_1 : decode cX11_gapForOne 1 = .ok (.getfield 10, 3) := by decide +kernel
theorem dX11_gapForOne_4 : decode cX11_gapForOne 4 = .ok (.getfield 142, 3) := by decide +kernel
theorem dX11_gapForOne_7 : decode cX11_gapForOne 7 = .ok (.getfield 146, 3) := by decide +kernel
theorem dX11_gapForOne_10 : decode cX11_gapForOne 10 = .ok (.ifCond .ne 6, 3) := by decide +kernel
theorem dX11_gapForOne_13 : decode cX11_gapForOne 13 = .ok (.bipush (-4), 2) := by decide +kernel
theorem dX11_gapForOne_15 : decode cX11_gapForOne 15 = .ok (.ireturn, 1) := by decide +kernel
theorem dX11_gapForOne_16 : decode cX11_gapForOne 16 = .ok (.iconst 1, 1) := by decide +kernel
theorem dX11_gapForOne_17 : decode cX11_gapForOne 17 = .ok (.aload_n 0, 1) := by decide +kernel
theorem dX11_gapForOne_18 : decode cX11_gapForOne 18 = .ok (.getfield 10, 3) := by decide +kernel
theorem dX11_gapForOne_21 : decode cX11_gapForOne 21 = .ok (.getfield 142, 3) := by decide +kernel
theorem dX11_gapForOne_24 : decode cX11_gapForOne 24 = .ok (.invokevirtual 215, 3) := by decide +kernel
theorem dX11_gapForOne_27 : decode cX11_gapForOne 27 = .ok (.invokestatic 218, 3) := by decide +kernel
theorem dX11_gapForOne_30 : decode cX11_gapForOne 30 = .ok (.istore_n 1, 1) := by decide +kernel
theorem dX11_gapForOne_31 : decode cX11_gapForOne 31 = .ok (.iload_n 1, 1) := by decide +kernel
theorem dX11_gapForOne_32 : decode cX11_gapForOne 32 = .ok (.sipush 1000, 3) := by decide +kernel
theorem dX11_gapForOne_35 : decode cX11_gapForOne 35 = .ok (.if_icmp .gt 7, 3) := by decide +kernel
theorem dX11_gapForOne_38 : decode cX11_gapForOne 38 = .ok (.iload_n 1, 1) := by decide +kernel
theorem dX11_gapForOne_39 : decode cX11_gapForOne 39 = .ok (.goto 5, 3) := by decide +kernel
theorem dX11_gapForOne_42 : decode cX11_gapForOne 42 = .ok (.bipush (-4), 2) := by decide +kernel
theorem dX11_gapForOne_44 : decode cX11_gapForOne 44 = .ok (.ireturn, 1) := by decide +kernel
theorem dX11_ifRun_0 : decode cX11_ifRun 0 = .ok (.iload_n 2, 1) := by decide +kernel
theorem dX11_ifRun_1 : decode cX11_ifRun 1 = .ok (.iconst 0, 1) := by decide +kernel
theorem dX11_ifRun_2 : decode cX11_ifRun 2 = .ok (.bipush 7, 2) := by decide +kernel
theorem dX11_ifRun_4 : decode cX11_ifRun 4 = .ok (.invokestatic 51, 3) := by decide +kernel
theorem dX11_ifRun_7 : decode cX11_ifRun 7 = .ok (.ifCond .ne 5, 3) := by decide +kernel
theorem dX11_ifRun_10 : decode cX11_ifRun 10 = .ok (.iconst (-1), 1) := by decide +kernel
theorem dX11_ifRun_11 : decode cX11_ifRun 11 = .ok (.ireturn, 1) := by decide +kernel
theorem dX11_ifRun_12 : decode cX11_ifRun 12 = .ok (.aload_n 0, 1) := by decide +kernel
theorem dX11_ifRun_13 : decode cX11_ifRun 13 = .ok (.iload_n 1, 1) := by decide +kernel
theorem dX11_ifRun_14 : decode cX11_ifRun 14 = .ok (.invokevirtual 94, 3) := by decide +kernel
theorem dX11_ifRun_17 : decode cX11_ifRun 17 = .ok (.istore_n 3, 1) := by decide +kernel
theorem dX11_ifRun_18 : decode cX11_ifRun 18 = .ok (.iload_n 3, 1) := by decide +kernel
theorem dX11_ifRun_19 : decode cX11_ifRun 19 = .ok (.ifCond .eq 5, 3) := by decide +kernel
theorem dX11_ifRun_22 : decode cX11_ifRun 22 = .ok (.iload_n 3, 1) := by decide +kernel
theorem dX11_ifRun_23 : decode cX11_ifRun 23 = .ok (.ireturn, 1) := by decide +kernel
theorem dX11_ifRun_24 : decode cX11_ifRun 24 = .ok (.aload_n 0, 1) := by decide +kernel
theorem dX11_ifRun_25 : decode cX11_ifRun 25 = .ok (.getfield 16, 3) := by decide +kernel
theorem dX11_ifRun_28 : decode cX11_ifRun 28 = .ok (.aload_n 0, 1) := by decide +kernel
theorem dX11_ifRun_29 : decode cX11_ifRun 29 = .ok (.getfield 10, 3) := by decide +kernel
theorem dX11_ifRun_32 : decode cX11_ifRun 32 = .ok (.invokevirtual 223, 3) := by decide +kernel
theorem dX11_ifRun_35 : decode cX11_ifRun 35 = .ok (.aload_n 0, 1) := by decide +kernel
theorem dX11_ifRun_36 : decode cX11_ifRun 36 = .ok (.getfield 16, 3) := by decide +kernel
theorem dX11_ifRun_39 : decode cX11_ifRun 39 = .ok (.iload_n 1, 1) := by decide +kernel
theorem dX11_ifRun_40 : decode cX11_ifRun 40 = .ok (.invokevirtual 98, 3) := by decide +kernel
theorem dX11_ifRun_43 : decode cX11_ifRun 43 = .ok (.istore 4, 2) := by decide +kernel
theorem dX11_ifRun_45 : decode cX11_ifRun 45 = .ok (.iload_n 2, 1) := by decide +kernel
theorem dX11_ifRun_46 : decode cX11_ifRun 46 = .ok (.tableswitch 79 0 7 #[46, 79, 79, 79, 79, 49, 60, 71], 46) := by decide +kernel
theorem dX11_ifRun_92 : decode cX11_ifRun 92 = .ok (.iload 4, 2) := by decide +kernel
theorem dX11_ifRun_94 : decode cX11_ifRun 94 = .ok (.ireturn, 1) := by decide +kernel
theorem dX11_ifRun_95 : decode cX11_ifRun 95 = .ok (.aload_n 0, 1) := by decide +kernel
theorem dX11_ifRun_96 : decode cX11_ifRun 96 = .ok (.getfield 16, 3) := by decide +kernel
theorem dX11_ifRun_99 : decode cX11_ifRun 99 = .ok (.getfield 152, 3) := by decide +kernel
theorem dX11_ifRun_102 : decode cX11_ifRun 102 = .ok (.getfield 156, 3) := by decide +kernel
theorem dX11_ifRun_105 : decode cX11_ifRun 105 = .ok (.ireturn, 1) := by decide +kernel
theorem dX11_ifRun_106 : decode cX11_ifRun 106 = .ok (.aload_n 0, 1) := by decide +kernel
theorem dX11_ifRun_107 : decode cX11_ifRun 107 = .ok (.getfield 16, 3) := by decide +kernel
theorem dX11_ifRun_110 : decode cX11_ifRun 110 = .ok (.getfield 161, 3) := by decide +kernel
theorem dX11_ifRun_113 : decode cX11_ifRun 113 = .ok (.getfield 165, 3) := by decide +kernel
theorem dX11_ifRun_116 : decode cX11_ifRun 116 = .ok (.ireturn, 1) := by decide +kernel
theorem dX11_ifRun_117 : decode cX11_ifRun 117 = .ok (.aload_n 0, 1) := by decide +kernel
theorem dX11_ifRun_118 : decode cX11_ifRun 118 = .ok (.getfield 16, 3) := by decide +kernel
theorem dX11_ifRun_121 : decode cX11_ifRun 121 = .ok (.invokevirtual 174, 3) := by decide +kernel
theorem dX11_ifRun_124 : decode cX11_ifRun 124 = .ok (.ireturn, 1) := by decide +kernel
theorem dX11_ifRun_125 : decode cX11_ifRun 125 = .ok (.aload_n 0, 1) := by decide +kernel
theorem dX11_ifRun_126 : decode cX11_ifRun 126 = .ok (.getfield 16, 3) := by decide +kernel
theorem dX11_ifRun_129 : decode cX11_ifRun 129 = .ok (.iload_n 2, 1) := by decide +kernel
theorem dX11_ifRun_130 : decode cX11_ifRun 130 = .ok (.invokevirtual 184, 3) := by decide +kernel
theorem dX11_ifRun_133 : decode cX11_ifRun 133 = .ok (.aload_n 0, 1) := by decide +kernel
theorem dX11_ifRun_134 : decode cX11_ifRun 134 = .ok (.getfield 10, 3) := by decide +kernel
theorem dX11_ifRun_137 : decode cX11_ifRun 137 = .ok (.iload_n 2, 1) := by decide +kernel
theorem dX11_ifRun_138 : decode cX11_ifRun 138 = .ok (.invokevirtual 184, 3) := by decide +kernel
theorem dX11_ifRun_141 : decode cX11_ifRun 141 = .ok (.isub, 1) := by decide +kernel
theorem dX11_ifRun_142 : decode cX11_ifRun 142 = .ok (.ireturn, 1) := by decide +kernel
theorem dX11_capacityFor_0 : decode cX11_capacityFor 0 = .ok (.iload_n 2, 1) := by decide +kernel
theorem dX11_capacityFor_1 : decode cX11_capacityFor 1 = .ok (.iconst 0, 1) := by decide +kernel
theorem dX11_capacityFor_2 : decode cX11_capacityFor 2 = .ok (.ldc 226, 2) := by decide +kernel
theorem dX11_capacityFor_4 : decode cX11_capacityFor 4 = .ok (.invokestatic 51, 3) := by decide +kernel
theorem dX11_capacityFor_7 : decode cX11_capacityFor 7 = .ok (.ifCond .ne 5, 3) := by decide +kernel
theorem dX11_capacityFor_10 : decode cX11_capacityFor 10 = .ok (.iconst (-1), 1) := by decide +kernel
theorem dX11_capacityFor_11 : decode cX11_capacityFor 11 = .ok (.ireturn, 1) := by decide +kernel
theorem dX11_capacityFor_12 : decode cX11_capacityFor 12 = .ok (.aload_n 0, 1) := by decide +kernel
theorem dX11_capacityFor_13 : decode cX11_capacityFor 13 = .ok (.iload_n 1, 1) := by decide +kernel
theorem dX11_capacityFor_14 : decode cX11_capacityFor 14 = .ok (.invokevirtual 94, 3) := by decide +kernel
theorem dX11_capacityFor_17 : decode cX11_capacityFor 17 = .ok (.istore_n 3, 1) := by decide +kernel
theorem dX11_capacityFor_18 : decode cX11_capacityFor 18 = .ok (.iload_n 3, 1) := by decide +kernel
theorem dX11_capacityFor_19 : decode cX11_capacityFor 19 = .ok (.ifCond .eq 5, 3) := by decide +kernel
theorem dX11_capacityFor_22 : decode cX11_capacityFor 22 = .ok (.iload_n 3, 1) := by decide +kernel
theorem dX11_capacityFor_23 : decode cX11_capacityFor 23 = .ok (.ireturn, 1) := by decide +kernel
theorem dX11_capacityFor_24 : decode cX11_capacityFor 24 = .ok (.aload_n 0, 1) := by decide +kernel
theorem dX11_capacityFor_25 : decode cX11_capacityFor 25 = .ok (.getfield 16, 3) := by decide +kernel
theorem dX11_capacityFor_28 : decode cX11_capacityFor 28 = .ok (.aload_n 0, 1) := by decide +kernel
theorem dX11_capacityFor_29 : decode cX11_capacityFor 29 = .ok (.getfield 10, 3) := by decide +kernel
theorem dX11_capacityFor_32 : decode cX11_capacityFor 32 = .ok (.invokevirtual 223, 3) := by decide +kernel
theorem dX11_capacityFor_35 : decode cX11_capacityFor 35 = .ok (.aload_n 0, 1) := by decide +kernel
theorem dX11_capacityFor_36 : decode cX11_capacityFor 36 = .ok (.getfield 29, 3) := by decide +kernel
theorem dX11_capacityFor_39 : decode cX11_capacityFor 39 = .ok (.aload_n 0, 1) := by decide +kernel
theorem dX11_capacityFor_40 : decode cX11_capacityFor 40 = .ok (.getfield 16, 3) := by decide +kernel
theorem dX11_capacityFor_43 : decode cX11_capacityFor 43 = .ok (.iload_n 1, 1) := by decide +kernel
theorem dX11_capacityFor_44 : decode cX11_capacityFor 44 = .ok (.invokevirtual 227, 3) := by decide +kernel
theorem dX11_capacityFor_47 : decode cX11_capacityFor 47 = .ok (.getstatic 105, 3) := by decide +kernel
theorem dX11_capacityFor_50 : decode cX11_capacityFor 50 = .ok (.iconst 0, 1) := by decide +kernel
theorem dX11_capacityFor_51 : decode cX11_capacityFor 51 = .ok (.iaload, 1) := by decide +kernel
theorem dX11_capacityFor_52 : decode cX11_capacityFor 52 = .ok (.istore 4, 2) := by decide +kernel
theorem dX11_capacityFor_54 : decode cX11_capacityFor 54 = .ok (.iload 4, 2) := by decide +kernel
theorem dX11_capacityFor_56 : decode cX11_capacityFor 56 = .ok (.getstatic 108, 3) := by decide +kernel
theorem dX11_capacityFor_59 : decode cX11_capacityFor 59 = .ok (.iconst 0, 1) := by decide +kernel
theorem dX11_capacityFor_60 : decode cX11_capacityFor 60 = .ok (.iaload, 1) := by decide +kernel
theorem dX11_capacityFor_61 : decode cX11_capacityFor 61 = .ok (.if_icmp .gt 46, 3) := by decide +kernel
theorem dX11_capacityFor_64 : decode cX11_capacityFor 64 = .ok (.aload_n 0, 1) := by decide +kernel
theorem dX11_capacityFor_65 : decode cX11_capacityFor 65 = .ok (.getfield 16, 3) := by decide +kernel
theorem dX11_capacityFor_68 : decode cX11_capacityFor 68 = .ok (.getfield 161, 3) := by decide +kernel
theorem dX11_capacityFor_71 : decode cX11_capacityFor 71 = .ok (.aload_n 0, 1) := by decide +kernel
theorem dX11_capacityFor_72 : decode cX11_capacityFor 72 = .ok (.getfield 10, 3) := by decide +kernel
theorem dX11_capacityFor_75 : decode cX11_capacityFor 75 = .ok (.getfield 161, 3) := by decide +kernel
theorem dX11_capacityFor_78 : decode cX11_capacityFor 78 = .ok (.invokevirtual 231, 3) := by decide +kernel
theorem dX11_capacityFor_81 : decode cX11_capacityFor 81 = .ok (.aload_n 0, 1) := by decide +kernel
theorem dX11_capacityFor_82 : decode cX11_capacityFor 82 = .ok (.getfield 29, 3) := by decide +kernel
theorem dX11_capacityFor_85 : decode cX11_capacityFor 85 = .ok (.iload_n 2, 1) := by decide +kernel
theorem dX11_capacityFor_86 : decode cX11_capacityFor 86 = .ok (.iload 4, 2) := by decide +kernel
theorem dX11_capacityFor_88 : decode cX11_capacityFor 88 = .ok (.aload_n 0, 1) := by decide +kernel
theorem dX11_capacityFor_89 : decode cX11_capacityFor 89 = .ok (.getfield 16, 3) := by decide +kernel
theorem dX11_capacityFor_92 : decode cX11_capacityFor 92 = .ok (.invokevirtual 234, 3) := by decide +kernel
theorem dX11_capacityFor_95 : decode cX11_capacityFor 95 = .ok (.ifCond .eq 6, 3) := by decide +kernel
theorem dX11_capacityFor_98 : decode cX11_capacityFor 98 = .ok (.iload 4, 2) := by decide +kernel
theorem dX11_capacityFor_100 : decode cX11_capacityFor 100 = .ok (.ireturn, 1) := by decide +kernel
theorem dX11_capacityFor_101 : decode cX11_capacityFor 101 = .ok (.iinc 4 1, 3) := by decide +kernel
theorem dX11_capacityFor_104 : decode cX11_capacityFor 104 = .ok (.goto (-50), 3) := by decide +kernel
theorem dX11_capacityFor_107 : decode cX11_capacityFor 107 = .ok (.bipush (-4), 2) := by decide +kernel
theorem dX11_capacityFor_109 : decode cX11_capacityFor 109 = .ok (.ireturn, 1) := by decide +kernel
theorem dX11_untilStop_0 : decode cX11_untilStop 0 = .ok (.aload_n 0, 1) := by decide +kernel
theorem dX11_untilStop_1 : decode cX11_untilStop 1 = .ok (.getfield 10, 3) := by decide +kernel
theorem dX11_untilStop_4 : decode cX11_untilStop 4 = .ok (.getfield 114, 3) := by decide +kernel
theorem dX11_untilStop_7 : decode cX11_untilStop 7 = .ok (.getfield 118, 3) := by decide +kernel
theorem dX11_untilStop_10 : decode cX11_untilStop 10 = .ok (.ireturn, 1) := by decide +kernel
theorem dX11_errorOfTicks_0 : decode cX11_errorOfTicks 0 = .ok (.iload_n 1, 1) := by decide +kernel
theorem dX11_errorOfTicks_1 : decode cX11_errorOfTicks 1 = .ok (.iconst 1, 1) := by decide +kernel
theorem dX11_errorOfTicks_2 : decode cX11_errorOfTicks 2 = .ok (.sipush 1000, 3) := by decide +kernel
theorem dX11_errorOfTicks_5 : decode cX11_errorOfTicks 5 = .ok (.invokestatic 51, 3) := by decide +kernel
theorem dX11_errorOfTicks_8 : decode cX11_errorOfTicks 8 = .ok (.ifCond .ne 5, 3) := by decide +kernel
theorem dX11_errorOfTicks_11 : decode cX11_errorOfTicks 11 = .ok (.iconst (-1), 1) := by decide +kernel
theorem dX11_errorOfTicks_12 : decode cX11_errorOfTicks 12 = .ok (.ireturn, 1) := by decide +kernel
theorem dX11_errorOfTicks_13 : decode cX11_errorOfTicks 13 = .ok (.aload_n 0, 1) := by decide +kernel
theorem dX11_errorOfTicks_14 : decode cX11_errorOfTicks 14 = .ok (.getfield 10, 3) := by decide +kernel
theorem dX11_errorOfTicks_17 : decode cX11_errorOfTicks 17 = .ok (.getfield 47, 3) := by decide +kernel
theorem dX11_errorOfTicks_20 : decode cX11_errorOfTicks 20 = .ok (.iload_n 1, 1) := by decide +kernel
theorem dX11_errorOfTicks_21 : decode cX11_errorOfTicks 21 = .ok (.iadd, 1) := by decide +kernel
theorem dX11_errorOfTicks_22 : decode cX11_errorOfTicks 22 = .ok (.sipush 5000, 3) := by decide +kernel
theorem dX11_errorOfTicks_25 : decode cX11_errorOfTicks 25 = .ok (.if_icmp .le 8, 3) := by decide +kernel
theorem dX11_errorOfTicks_28 : decode cX11_errorOfTicks 28 = .ok (.bipush (-3), 2) := by decide +kernel
theorem dX11_errorOfTicks_30 : decode cX11_errorOfTicks 30 = .ok (.goto 4, 3) := by decide +kernel
theorem dX11_errorOfTicks_33 : decode cX11_errorOfTicks 33 = .ok (.iconst 0, 1) := by decide +kernel
theorem dX11_errorOfTicks_34 : decode cX11_errorOfTicks 34 = .ok (.ireturn, 1) := by decide +kernel
theorem dX11_amountOf_0 : decode cX11_amountOf 0 = .ok (.iload_n 2, 1) := by decide +kernel
theorem dX11_amountOf_1 : decode cX11_amountOf 1 = .ok (.iload_n 1, 1) := by decide +kernel
theorem dX11_amountOf_2 : decode cX11_amountOf 2 = .ok (.isub, 1) := by decide +kernel
theorem dX11_amountOf_3 : decode cX11_amountOf 3 = .ok (.aload_n 0, 1) := by decide +kernel
theorem dX11_amountOf_4 : decode cX11_amountOf 4 = .ok (.getfield 10, 3) := by decide +kernel
theorem dX11_amountOf_7 : decode cX11_amountOf 7 = .ok (.getfield 111, 3) := by decide +kernel
theorem dX11_amountOf_10 : decode cX11_amountOf 10 = .ok (.iconst 0, 1) := by decide +kernel
theorem dX11_amountOf_11 : decode cX11_amountOf 11 = .ok (.iaload, 1) := by decide +kernel
theorem dX11_amountOf_12 : decode cX11_amountOf 12 = .ok (.imul, 1) := by decide +kernel
theorem dX11_amountOf_13 : decode cX11_amountOf 13 = .ok (.ireturn, 1) := by decide +kernel
theorem dX11_lossOf_0 : decode cX11_lossOf 0 = .ok (.aload_n 0, 1) := by decide +kernel
theorem dX11_lossOf_1 : decode cX11_lossOf 1 = .ok (.getfield 10, 3) := by decide +kernel
theorem dX11_lossOf_4 : decode cX11_lossOf 4 = .ok (.getfield 142, 3) := by decide +kernel
theorem dX11_lossOf_7 : decode cX11_lossOf 7 = .ok (.iload_n 1, 1) := by decide +kernel
theorem dX11_lossOf_8 : decode cX11_lossOf 8 = .ok (.iload_n 2, 1) := by decide +kernel
theorem dX11_lossOf_9 : decode cX11_lossOf 9 = .ok (.aload_n 0, 1) := by decide +kernel
theorem dX11_lossOf_10 : decode cX11_lossOf 10 = .ok (.getfield 10, 3) := by decide +kernel
theorem dX11_lossOf_13 : decode cX11_lossOf 13 = .ok (.getfield 111, 3) := by decide +kernel
theorem dX11_lossOf_16 : decode cX11_lossOf 16 = .ok (.iconst 0, 1) := by decide +kernel
theorem dX11_lossOf_17 : decode cX11_lossOf 17 = .ok (.iaload, 1) := by decide +kernel
theorem dX11_lossOf_18 : decode cX11_lossOf 18 = .ok (.aload_n 0, 1) := by decide +kernel
theorem dX11_lossOf_19 : decode cX11_lossOf 19 = .ok (.getfield 10, 3) := by decide +kernel
theorem dX11_lossOf_22 : decode cX11_lossOf 22 = .ok (.getfield 111, 3) := by decide +kernel
theorem dX11_lossOf_25 : decode cX11_lossOf 25 = .ok (.iconst 1, 1) := by decide +kernel
theorem dX11_lossOf_26 : decode cX11_lossOf 26 = .ok (.iaload, 1) := by decide +kernel
theorem dX11_lossOf_27 : decode cX11_lossOf 27 = .ok (.imul, 1) := by decide +kernel
theorem dX11_lossOf_28 : decode cX11_lossOf 28 = .ok (.invokevirtual 258, 3) := by decide +kernel
theorem dX11_lossOf_31 : decode cX11_lossOf 31 = .ok (.ireturn, 1) := by decide +kernel
theorem dX11_isWithin_0 : decode cX11_isWithin 0 = .ok (.iload_n 0, 1) := by decide +kernel
theorem dX11_isWithin_1 : decode cX11_isWithin 1 = .ok (.iload_n 1, 1) := by decide +kernel
theorem dX11_isWithin_2 : decode cX11_isWithin 2 = .ok (.if_icmp .lt 12, 3) := by decide +kernel
theorem dX11_isWithin_5 : decode cX11_isWithin 5 = .ok (.iload_n 0, 1) := by decide +kernel
theorem dX11_isWithin_6 : decode cX11_isWithin 6 = .ok (.iload_n 2, 1) := by decide +kernel
theorem dX11_isWithin_7 : decode cX11_isWithin 7 = .ok (.if_icmp .gt 7, 3) := by decide +kernel
theorem dX11_isWithin_10 : decode cX11_isWithin 10 = .ok (.iconst 1, 1) := by decide +kernel
theorem dX11_isWithin_11 : decode cX11_isWithin 11 = .ok (.goto 4, 3) := by decide +kernel
theorem dX11_isWithin_14 : decode cX11_isWithin 14 = .ok (.iconst 0, 1) := by decide +kernel
theorem dX11_isWithin_15 : decode cX11_isWithin 15 = .ok (.ireturn, 1) := by decide +kernel
theorem dX11_quotient_0 : decode cX11_quotient 0 = .ok (.iload_n 1, 1) := by decide +kernel
theorem dX11_quotient_1 : decode cX11_quotient 1 = .ok (.ifCond .ne 7, 3) := by decide +kernel
theorem dX11_quotient_4 : decode cX11_quotient 4 = .ok (.iconst 0, 1) := by decide +kernel
theorem dX11_quotient_5 : decode cX11_quotient 5 = .ok (.goto 8, 3) := by decide +kernel
theorem dX11_quotient_8 : decode cX11_quotient 8 = .ok (.iload_n 0, 1) := by decide +kernel
theorem dX11_quotient_9 : decode cX11_quotient 9 = .ok (.iload_n 1, 1) := by decide +kernel
theorem dX11_quotient_10 : decode cX11_quotient 10 = .ok (.invokestatic 261, 3) := by decide +kernel
theorem dX11_quotient_13 : decode cX11_quotient 13 = .ok (.ireturn, 1) := by decide +kernel
theorem dX11_copyRow_0 : decode cX11_copyRow 0 = .ok (.aload_n 0, 1) := by decide +kernel
theorem dX11_copyRow_1 : decode cX11_copyRow 1 = .ok (.iconst 0, 1) := by decide +kernel
theorem dX11_copyRow_2 : decode cX11_copyRow 2 = .ok (.aload_n 1, 1) := by decide +kernel
theorem dX11_copyRow_3 : decode cX11_copyRow 3 = .ok (.iconst 0, 1) := by decide +kernel
theorem dX11_copyRow_4 : decode cX11_copyRow 4 = .ok (.aload_n 0, 1) := by decide +kernel
theorem dX11_copyRow_5 : decode cX11_copyRow 5 = .ok (.arraylength, 1) := by decide +kernel
theorem dX11_copyRow_6 : decode cX11_copyRow 6 = .ok (.aload_n 1, 1) := by decide +kernel
theorem dX11_copyRow_7 : decode cX11_copyRow 7 = .ok (.arraylength, 1) := by decide +kernel
theorem dX11_copyRow_8 : decode cX11_copyRow 8 = .ok (.invokestatic 264, 3) := by decide +kernel
theorem dX11_copyRow_11 : decode cX11_copyRow 11 = .ok (.invokestatic 267, 3) := by decide +kernel
theorem dX11_copyRow_14 : decode cX11_copyRow 14 = .ok (.return_, 1) := by decide +kernel
theorem dJ9_floorDiv_7cf53_0 : decode cJ9_floorDiv_7cf53 0 = .ok (.iload_n 0, 1) := by decide +kernel
theorem dJ9_floorDiv_7cf53_1 : decode cJ9_floorDiv_7cf53 1 = .ok (.iload_n 1, 1) := by decide +kernel
theorem dJ9_floorDiv_7cf53_2 : decode cJ9_floorDiv_7cf53 2 = .ok (.idiv, 1) := by decide +kernel
theorem dJ9_floorDiv_7cf53_3 : decode cJ9_floorDiv_7cf53 3 = .ok (.istore_n 2, 1) := by decide +kernel
theorem dJ9_floorDiv_7cf53_4 : decode cJ9_floorDiv_7cf53 4 = .ok (.iload_n 0, 1) := by decide +kernel
theorem dJ9_floorDiv_7cf53_5 : decode cJ9_floorDiv_7cf53 5 = .ok (.iload_n 1, 1) := by decide +kernel
theorem dJ9_floorDiv_7cf53_6 : decode cJ9_floorDiv_7cf53 6 = .ok (.ixor, 1) := by decide +kernel
theorem dJ9_floorDiv_7cf53_7 : decode cJ9_floorDiv_7cf53 7 = .ok (.ifCond .ge 14, 3) := by decide +kernel
theorem dJ9_floorDiv_7cf53_10 : decode cJ9_floorDiv_7cf53 10 = .ok (.iload_n 2, 1) := by decide +kernel
theorem dJ9_floorDiv_7cf53_11 : decode cJ9_floorDiv_7cf53 11 = .ok (.iload_n 1, 1) := by decide +kernel
theorem dJ9_floorDiv_7cf53_12 : decode cJ9_floorDiv_7cf53 12 = .ok (.imul, 1) := by decide +kernel
theorem dJ9_floorDiv_7cf53_13 : decode cJ9_floorDiv_7cf53 13 = .ok (.iload_n 0, 1) := by decide +kernel
theorem dJ9_floorDiv_7cf53_14 : decode cJ9_floorDiv_7cf53 14 = .ok (.if_icmp .eq 7, 3) := by decide +kernel
theorem dJ9_floorDiv_7cf53_17 : decode cJ9_floorDiv_7cf53 17 = .ok (.iload_n 2, 1) := by decide +kernel
theorem dJ9_floorDiv_7cf53_18 : decode cJ9_floorDiv_7cf53 18 = .ok (.iconst 1, 1) := by decide +kernel
theorem dJ9_floorDiv_7cf53_19 : decode cJ9_floorDiv_7cf53 19 = .ok (.isub, 1) := by decide +kernel
theorem dJ9_floorDiv_7cf53_20 : decode cJ9_floorDiv_7cf53 20 = .ok (.ireturn, 1) := by decide +kernel
theorem dJ9_floorDiv_7cf53_21 : decode cJ9_floorDiv_7cf53 21 = .ok (.iload_n 2, 1) := by decide +kernel
theorem dJ9_floorDiv_7cf53_22 : decode cJ9_floorDiv_7cf53 22 = .ok (.ireturn, 1) := by decide +kernel
theorem dJ9_max_7cf53_0 : decode cJ9_max_7cf53 0 = .ok (.iload_n 0, 1) := by decide +kernel
theorem dJ9_max_7cf53_1 : decode cJ9_max_7cf53 1 = .ok (.iload_n 1, 1) := by decide +kernel
theorem dJ9_max_7cf53_2 : decode cJ9_max_7cf53 2 = .ok (.if_icmp .lt 7, 3) := by decide +kernel
theorem dJ9_max_7cf53_5 : decode cJ9_max_7cf53 5 = .ok (.iload_n 0, 1) := by decide +kernel
theorem dJ9_max_7cf53_6 : decode cJ9_max_7cf53 6 = .ok (.goto 4, 3) := by decide +kernel
theorem dJ9_max_7cf53_9 : decode cJ9_max_7cf53 9 = .ok (.iload_n 1, 1) := by decide +kernel
theorem dJ9_max_7cf53_10 : decode cJ9_max_7cf53 10 = .ok (.ireturn, 1) := by decide +kernel
theorem dJ9_min_7cf53_0 : decode cJ9_min_7cf53 0 = .ok (.iload_n 0, 1) := by decide +kernel
theorem dJ9_min_7cf53_1 : decode cJ9_min_7cf53 1 = .ok (.iload_n 1, 1) := by decide +kernel
theorem dJ9_min_7cf53_2 : decode cJ9_min_7cf53 2 = .ok (.if_icmp .gt 7, 3) := by decide +kernel
theorem dJ9_min_7cf53_5 : decode cJ9_min_7cf53 5 = .ok (.iload_n 0, 1) := by decide +kernel
theorem dJ9_min_7cf53_6 : decode cJ9_min_7cf53 6 = .ok (.goto 4, 3) := by decide +kernel
theorem dJ9_min_7cf53_9 : decode cJ9_min_7cf53 9 = .ok (.iload_n 1, 1) := by decide +kernel
theorem dJ9_min_7cf53_10 : decode cJ9_min_7cf53 10 = .ok (.ireturn, 1) := by decide +kernel
theorem dL_cell_0 : decode cL_cell 0 = .ok (.iload_n 1, 1) := by decide +kernel
theorem dL_cell_1 : decode cL_cell 1 = .ok (.aload_n 0, 1) := by decide +kernel
theorem dL_cell_2 : decode cL_cell 2 = .ok (.arraylength, 1) := by decide +kernel
theorem dL_cell_3 : decode cL_cell 3 = .ok (.if_icmp .ge 9, 3) := by decide +kernel
theorem dL_cell_6 : decode cL_cell 6 = .ok (.aload_n 0, 1) := by decide +kernel
theorem dL_cell_7 : decode cL_cell 7 = .ok (.iload_n 1, 1) := by decide +kernel
theorem dL_cell_8 : decode cL_cell 8 = .ok (.iaload, 1) := by decide +kernel
theorem dL_cell_9 : decode cL_cell 9 = .ok (.goto 10, 3) := by decide +kernel
theorem dL_cell_12 : decode cL_cell 12 = .ok (.ldc 7, 2) := by decide +kernel
theorem dL_cell_14 : decode cL_cell 14 = .ok (.iload_n 1, 1) := by decide +kernel
theorem dL_cell_15 : decode cL_cell 15 = .ok (.imul, 1) := by decide +kernel
theorem dL_cell_16 : decode cL_cell 16 = .ok (.bipush 109, 2) := by decide +kernel
theorem dL_cell_18 : decode cL_cell 18 = .ok (.iadd, 1) := by decide +kernel
theorem dL_cell_19 : decode cL_cell 19 = .ok (.ldc 8, 2) := by decide +kernel
theorem dL_cell_21 : decode cL_cell 21 = .ok (.iand, 1) := by decide +kernel
theorem dL_cell_22 : decode cL_cell 22 = .ok (.ireturn, 1) := by decide +kernel
theorem dL_holds_0 : decode cL_holds 0 = .ok (.aload_n 0, 1) := by decide +kernel
theorem dL_holds_1 : decode cL_holds 1 = .ok (.iconst 0, 1) := by decide +kernel
theorem dL_holds_2 : decode cL_holds 2 = .ok (.invokevirtual 9, 3) := by decide +kernel
theorem dL_holds_5 : decode cL_holds 5 = .ok (.aload_n 0, 1) := by decide +kernel
theorem dL_holds_6 : decode cL_holds 6 = .ok (.iconst 1, 1) := by decide +kernel
theorem dL_holds_7 : decode cL_holds 7 = .ok (.invokevirtual 9, 3) := by decide +kernel
theorem dL_holds_10 : decode cL_holds 10 = .ok (.aload_n 0, 1) := by decide +kernel
theorem dL_holds_11 : decode cL_holds 11 = .ok (.iconst 2, 1) := by decide +kernel
theorem dL_holds_12 : decode cL_holds 12 = .ok (.invokevirtual 9, 3) := by decide +kernel
theorem dL_holds_15 : decode cL_holds 15 = .ok (.iadd, 1) := by decide +kernel
theorem dL_holds_16 : decode cL_holds 16 = .ok (.aload_n 0, 1) := by decide +kernel
theorem dL_holds_17 : decode cL_holds 17 = .ok (.iconst 3, 1) := by decide +kernel
theorem dL_holds_18 : decode cL_holds 18 = .ok (.invokevirtual 9, 3) := by decide +kernel
theorem dL_holds_21 : decode cL_holds 21 = .ok (.iadd, 1) := by decide +kernel
theorem dL_holds_22 : decode cL_holds 22 = .ok (.aload_n 0, 1) := by decide +kernel
theorem dL_holds_23 : decode cL_holds 23 = .ok (.iconst 4, 1) := by decide +kernel
theorem dL_holds_24 : decode cL_holds 24 = .ok (.invokevirtual 9, 3) := by decide +kernel
theorem dL_holds_27 : decode cL_holds 27 = .ok (.iadd, 1) := by decide +kernel
theorem dL_holds_28 : decode cL_holds 28 = .ok (.aload_n 0, 1) := by decide +kernel
theorem dL_holds_29 : decode cL_holds 29 = .ok (.iconst 4, 1) := by decide +kernel
theorem dL_holds_30 : decode cL_holds 30 = .ok (.invokevirtual 15, 3) := by decide +kernel
theorem dL_holds_33 : decode cL_holds 33 = .ok (.iadd, 1) := by decide +kernel
theorem dL_holds_34 : decode cL_holds 34 = .ok (.aload_n 0, 1) := by decide +kernel
theorem dL_holds_35 : decode cL_holds 35 = .ok (.iconst 5, 1) := by decide +kernel
theorem dL_holds_36 : decode cL_holds 36 = .ok (.invokevirtual 15, 3) := by decide +kernel
theorem dL_holds_39 : decode cL_holds 39 = .ok (.iadd, 1) := by decide +kernel
theorem dL_holds_40 : decode cL_holds 40 = .ok (.if_icmp .ne 7, 3) := by decide +kernel
theorem dL_holds_43 : decode cL_holds 43 = .ok (.iconst 1, 1) := by decide +kernel
theorem dL_holds_44 : decode cL_holds 44 = .ok (.goto 4, 3) := by decide +kernel
theorem dL_holds_47 : decode cL_holds 47 = .ok (.iconst 0, 1) := by decide +kernel
theorem dL_holds_48 : decode cL_holds 48 = .ok (.istore_n 1, 1) := by decide +kernel
theorem dL_holds_49 : decode cL_holds 49 = .ok (.iload_n 1, 1) := by decide +kernel
theorem dL_holds_50 : decode cL_holds 50 = .ok (.ifCond .eq 65, 3) := by decide +kernel
theorem dL_holds_53 : decode cL_holds 53 = .ok (.aload_n 0, 1) := by decide +kernel
theorem dL_holds_54 : decode cL_holds 54 = .ok (.bipush 6, 2) := by decide +kernel
theorem dL_holds_56 : decode cL_holds 56 = .ok (.invokevirtual 15, 3) := by decide +kernel
theorem dL_holds_59 : decode cL_holds 59 = .ok (.ifCond .lt 56, 3) := by decide +kernel
theorem dL_holds_62 : decode cL_holds 62 = .ok (.aload_n 0, 1) := by decide +kernel
theorem dL_holds_63 : decode cL_holds 63 = .ok (.bipush 6, 2) := by decide +kernel
theorem dL_holds_65 : decode cL_holds 65 = .ok (.invokevirtual 15, 3) := by decide +kernel
theorem dL_holds_68 : decode cL_holds 68 = .ok (.bipush 20, 2) := by decide +kernel
theorem dL_holds_70 : decode cL_holds 70 = .ok (.if_icmp .gt 45, 3) := by decide +kernel
theorem dL_holds_73 : decode cL_holds 73 = .ok (.aload_n 0, 1) := by decide +kernel
theorem dL_holds_74 : decode cL_holds 74 = .ok (.bipush 9, 2) := by decide +kernel
theorem dL_holds_76 : decode cL_holds 76 = .ok (.invokevirtual 15, 3) := by decide +kernel
theorem dL_holds_79 : decode cL_holds 79 = .ok (.ifCond .lt 36, 3) := by decide +kernel
theorem dL_holds_82 : decode cL_holds 82 = .ok (.aload_n 0, 1) := by decide +kernel
theorem dL_holds_83 : decode cL_holds 83 = .ok (.bipush 9, 2) := by decide +kernel
theorem dL_holds_85 : decode cL_holds 85 = .ok (.invokevirtual 15, 3) := by decide +kernel
theorem dL_holds_88 : decode cL_holds 88 = .ok (.aload_n 0, 1) := by decide +kernel
theorem dL_holds_89 : decode cL_holds 89 = .ok (.bipush 25, 2) := by decide +kernel
theorem dL_holds_91 : decode cL_holds 91 = .ok (.invokevirtual 15, 3) := by decide +kernel
theorem dL_holds_94 : decode cL_holds 94 = .ok (.if_icmp .ge 21, 3) := by decide +kernel
theorem dL_holds_97 : decode cL_holds 97 = .ok (.aload_n 0, 1) := by decide +kernel
theorem dL_holds_98 : decode cL_holds 98 = .ok (.bipush 8, 2) := by decide +kernel
theorem dL_holds_100 : decode cL_holds 100 = .ok (.invokevirtual 15, 3) := by decide +kernel
theorem dL_holds_103 : decode cL_holds 103 = .ok (.aload_n 0, 1) := by decide +kernel
theorem dL_holds_104 : decode cL_holds 104 = .ok (.iconst 0, 1) := by decide +kernel
theorem dL_holds_105 : decode cL_holds 105 = .ok (.invokevirtual 15, 3) := by decide +kernel
theorem dL_holds_108 : decode cL_holds 108 = .ok (.if_icmp .gt 7, 3) := by decide +kernel
theorem dL_holds_111 : decode cL_holds 111 = .ok (.iconst 1, 1) := by decide +kernel
theorem dL_holds_112 : decode cL_holds 112 = .ok (.goto 4, 3) := by decide +kernel
theorem dL_holds_115 : decode cL_holds 115 = .ok (.iconst 0, 1) := by decide +kernel
theorem dL_holds_116 : decode cL_holds 116 = .ok (.istore_n 1, 1) := by decide +kernel
theorem dL_holds_117 : decode cL_holds 117 = .ok (.aload_n 0, 1) := by decide +kernel
theorem dL_holds_118 : decode cL_holds 118 = .ok (.iconst 2, 1) := by decide +kernel
theorem dL_holds_119 : decode cL_holds 119 = .ok (.invokevirtual 15, 3) := by decide +kernel
theorem dL_holds_122 : decode cL_holds 122 = .ok (.istore_n 2, 1) := by decide +kernel
theorem dL_holds_123 : decode cL_holds 123 = .ok (.iconst 0, 1) := by decide +kernel
theorem dL_holds_124 : decode cL_holds 124 = .ok (.istore_n 3, 1) := by decide +kernel
theorem dL_holds_125 : decode cL_holds 125 = .ok (.iconst 1, 1) := by decide +kernel
theorem dL_holds_126 : decode cL_holds 126 = .ok (.istore 4, 2) := by decide +kernel
theorem dL_holds_128 : decode cL_holds 128 = .ok (.iload 4, 2) := by decide +kernel
theorem dL_holds_130 : decode cL_holds 130 = .ok (.iload_n 2, 1) := by decide +kernel
theorem dL_holds_131 : decode cL_holds 131 = .ok (.if_icmp .ge 63, 3) := by decide +kernel
theorem dL_holds_134 : decode cL_holds 134 = .ok (.iload_n 1, 1) := by decide +kernel
theorem dL_holds_135 : decode cL_holds 135 = .ok (.ifCond .eq 59, 3) := by decide +kernel
theorem dL_holds_138 : decode cL_holds 138 = .ok (.aload_n 0, 1) := by decide +kernel
theorem dL_holds_139 : decode cL_holds 139 = .ok (.iload 4, 2) := by decide +kernel
theorem dL_holds_141 : decode cL_holds 141 = .ok (.iconst 0, 1) := by decide +kernel
theorem dL_holds_142 : decode cL_holds 142 = .ok (.invokevirtual 18, 3) := by decide +kernel
theorem dL_holds_145 : decode cL_holds 145 = .ok (.aload_n 0, 1) := by decide +kernel
theorem dL_holds_146 : decode cL_holds 146 = .ok (.iload 4, 2) := by decide +kernel
theorem dL_holds_148 : decode cL_holds 148 = .ok (.iconst 1, 1) := by decide +kernel
theorem dL_holds_149 : decode cL_holds 149 = .ok (.isub, 1) := by decide +kernel
theorem dL_holds_150 : decode cL_holds 150 = .ok (.iconst 0, 1) := by decide +kernel
theorem dL_holds_151 : decode cL_holds 151 = .ok (.invokevirtual 18, 3) := by decide +kernel
theorem dL_holds_154 : decode cL_holds 154 = .ok (.if_icmp .le 32, 3) := by decide +kernel
theorem dL_holds_157 : decode cL_holds 157 = .ok (.aload_n 0, 1) := by decide +kernel
theorem dL_holds_158 : decode cL_holds 158 = .ok (.iload 4, 2) := by decide +kernel
theorem dL_holds_160 : decode cL_holds 160 = .ok (.iconst 0, 1) := by decide +kernel
theorem dL_holds_161 : decode cL_holds 161 = .ok (.invokevirtual 18, 3) := by decide +kernel
theorem dL_holds_164 : decode cL_holds 164 = .ok (.aload_n 0, 1) := by decide +kernel
theorem dL_holds_165 : decode cL_holds 165 = .ok (.iconst 0, 1) := by decide +kernel
theorem dL_holds_166 : decode cL_holds 166 = .ok (.invokevirtual 15, 3) := by decide +kernel
theorem dL_holds_169 : decode cL_holds 169 = .ok (.if_icmp .ge 17, 3) := by decide +kernel
theorem dL_holds_172 : decode cL_holds 172 = .ok (.aload_n 0, 1) := by decide +kernel
theorem dL_holds_173 : decode cL_holds 173 = .ok (.iload 4, 2) := by decide +kernel
theorem dL_holds_175 : decode cL_holds 175 = .ok (.iconst 2, 1) := by decide +kernel
theorem dL_holds_176 : decode cL_holds 176 = .ok (.invokevirtual 18, 3) := by decide +kernel
theorem dL_holds_179 : decode cL_holds 179 = .ok (.ifCond .lt 7, 3) := by decide +kernel
theorem dL_holds_182 : decode cL_holds 182 = .ok (.iconst 1, 1) := by decide +kernel
theorem dL_holds_183 : decode cL_holds 183 = .ok (.goto 4, 3) := by decide +kernel
theorem dL_holds_186 : decode cL_holds 186 = .ok (.iconst 0, 1) := by decide +kernel
theorem dL_holds_187 : decode cL_holds 187 = .ok (.istore_n 1, 1) := by decide +kernel
theorem dL_holds_188 : decode cL_holds 188 = .ok (.iinc 4 1, 3) := by decide +kernel
theorem dL_holds_191 : decode cL_holds 191 = .ok (.goto (-63), 3) := by decide +kernel
theorem dL_holds_194 : decode cL_holds 194 = .ok (.iconst 0, 1) := by decide +kernel
theorem dL_holds_195 : decode cL_holds 195 = .ok (.istore 4, 2) := by decide +kernel
theorem dL_holds_197 : decode cL_holds 197 = .ok (.iload 4, 2) := by decide +kernel
theorem dL_holds_199 : decode cL_holds 199 = .ok (.aload_n 0, 1) := by decide +kernel
theorem dL_holds_200 : decode cL_holds 200 = .ok (.iconst 3, 1) := by decide +kernel
theorem dL_holds_201 : decode cL_holds 201 = .ok (.invokevirtual 15, 3) := by decide +kernel
theorem dL_holds_204 : decode cL_holds 204 = .ok (.if_icmp .ge 92, 3) := by decide +kernel
theorem dL_holds_207 : decode cL_holds 207 = .ok (.iload_n 1, 1) := by decide +kernel
theorem dL_holds_208 : decode cL_holds 208 = .ok (.ifCond .eq 88, 3) := by decide +kernel
theorem dL_holds_211 : decode cL_holds 211 = .ok (.aload_n 0, 1) := by decide +kernel
theorem dL_holds_212 : decode cL_holds 212 = .ok (.iload 4, 2) := by decide +kernel
theorem dL_holds_214 : decode cL_holds 214 = .ok (.iconst 0, 1) := by decide +kernel
theorem dL_holds_215 : decode cL_holds 215 = .ok (.invokevirtual 22, 3) := by decide +kernel
theorem dL_holds_218 : decode cL_holds 218 = .ok (.iload_n 3, 1) := by decide +kernel
theorem dL_holds_219 : decode cL_holds 219 = .ok (.if_icmp .ne 59, 3) := by decide +kernel
theorem dL_holds_222 : decode cL_holds 222 = .ok (.aload_n 0, 1) := by decide +kernel
theorem dL_holds_223 : decode cL_holds 223 = .ok (.iload 4, 2) := by decide +kernel
theorem dL_holds_225 : decode cL_holds 225 = .ok (.iconst 5, 1) := by decide +kernel
theorem dL_holds_226 : decode cL_holds 226 = .ok (.invokevirtual 22, 3) := by decide +kernel
theorem dL_holds_229 : decode cL_holds 229 = .ok (.iconst 1, 1) := by decide +kernel
theorem dL_holds_230 : decode cL_holds 230 = .ok (.if_icmp .lt 48, 3) := by decide +kernel
theorem dL_holds_233 : decode cL_holds 233 = .ok (.aload_n 0, 1) := by decide +kernel
theorem dL_holds_234 : decode cL_holds 234 = .ok (.iload 4, 2) := by decide +kernel
theorem dL_holds_236 : decode cL_holds 236 = .ok (.iconst 5, 1) := by decide +kernel
theorem dL_holds_237 : decode cL_holds 237 = .ok (.invokevirtual 22, 3) := by decide +kernel
theorem dL_holds_240 : decode cL_holds 240 = .ok (.aload_n 0, 1) := by decide +kernel
theorem dL_holds_241 : decode cL_holds 241 = .ok (.iload 4, 2) := by decide +kernel
theorem dL_holds_243 : decode cL_holds 243 = .ok (.iconst 1, 1) := by decide +kernel
theorem dL_holds_244 : decode cL_holds 244 = .ok (.invokevirtual 22, 3) := by decide +kernel
theorem dL_holds_247 : decode cL_holds 247 = .ok (.if_icmp .gt 31, 3) := by decide +kernel
theorem dL_holds_250 : decode cL_holds 250 = .ok (.aload_n 0, 1) := by decide +kernel
theorem dL_holds_251 : decode cL_holds 251 = .ok (.iload 4, 2) := by decide +kernel
theorem dL_holds_253 : decode cL_holds 253 = .ok (.iconst 3, 1) := by decide +kernel
theorem dL_holds_254 : decode cL_holds 254 = .ok (.invokevirtual 22, 3) := by decide +kernel
theorem dL_holds_257 : decode cL_holds 257 = .ok (.aload_n 0, 1) := by decide +kernel
theorem dL_holds_258 : decode cL_holds 258 = .ok (.iload 4, 2) := by decide +kernel
theorem dL_holds_260 : decode cL_holds 260 = .ok (.iconst 1, 1) := by decide +kernel
theorem dL_holds_261 : decode cL_holds 261 = .ok (.invokevirtual 22, 3) := by decide +kernel
theorem dL_holds_264 : decode cL_holds 264 = .ok (.aload_n 0, 1) := by decide +kernel
theorem dL_holds_265 : decode cL_holds 265 = .ok (.bipush 20, 2) := by decide +kernel
theorem dL_holds_267 : decode cL_holds 267 = .ok (.invokevirtual 15, 3) := by decide +kernel
theorem dL_holds_270 : decode cL_holds 270 = .ok (.imul, 1) := by decide +kernel
theorem dL_holds_271 : decode cL_holds 271 = .ok (.if_icmp .ne 7, 3) := by decide +kernel
theorem dL_holds_274 : decode cL_holds 274 = .ok (.iconst 1, 1) := by decide +kernel
theorem dL_holds_275 : decode cL_holds 275 = .ok (.goto 4, 3) := by decide +kernel
theorem dL_holds_278 : decode cL_holds 278 = .ok (.iconst 0, 1) := by decide +kernel
theorem dL_holds_279 : decode cL_holds 279 = .ok (.istore_n 1, 1) := by decide +kernel
theorem dL_holds_280 : decode cL_holds 280 = .ok (.iload_n 3, 1) := by decide +kernel
theorem dL_holds_281 : decode cL_holds 281 = .ok (.aload_n 0, 1) := by decide +kernel
theorem dL_holds_282 : decode cL_holds 282 = .ok (.iload 4, 2) := by decide +kernel
theorem dL_holds_284 : decode cL_holds 284 = .ok (.iconst 1, 1) := by decide +kernel
theorem dL_holds_285 : decode cL_holds 285 = .ok (.invokevirtual 22, 3) := by decide +kernel
theorem dL_holds_288 : decode cL_holds 288 = .ok (.iadd, 1) := by decide +kernel
theorem dL_holds_289 : decode cL_holds 289 = .ok (.istore_n 3, 1) := by decide +kernel
theorem dL_holds_290 : decode cL_holds 290 = .ok (.iinc 4 1, 3) := by decide +kernel
theorem dL_holds_293 : decode cL_holds 293 = .ok (.goto (-96), 3) := by decide +kernel
theorem dL_holds_296 : decode cL_holds 296 = .ok (.iconst 0, 1) := by decide +kernel
theorem dL_holds_297 : decode cL_holds 297 = .ok (.istore 4, 2) := by decide +kernel
theorem dL_holds_299 : decode cL_holds 299 = .ok (.iconst 0, 1) := by decide +kernel
theorem dL_holds_300 : decode cL_holds 300 = .ok (.istore 5, 2) := by decide +kernel
theorem dL_holds_302 : decode cL_holds 302 = .ok (.iload 5, 2) := by decide +kernel
theorem dL_holds_304 : decode cL_holds 304 = .ok (.aload_n 0, 1) := by decide +kernel
theorem dL_holds_305 : decode cL_holds 305 = .ok (.iconst 1, 1) := by decide +kernel
theorem dL_holds_306 : decode cL_holds 306 = .ok (.invokevirtual 15, 3) := by decide +kernel
theorem dL_holds_309 : decode cL_holds 309 = .ok (.if_icmp .ge 67, 3) := by decide +kernel
theorem dL_holds_312 : decode cL_holds 312 = .ok (.iload_n 1, 1) := by decide +kernel
theorem dL_holds_313 : decode cL_holds 313 = .ok (.ifCond .eq 63, 3) := by decide +kernel
theorem dL_holds_316 : decode cL_holds 316 = .ok (.aload_n 0, 1) := by decide +kernel
theorem dL_holds_317 : decode cL_holds 317 = .ok (.iload 5, 2) := by decide +kernel
theorem dL_holds_319 : decode cL_holds 319 = .ok (.iconst 0, 1) := by decide +kernel
theorem dL_holds_320 : decode cL_holds 320 = .ok (.invokevirtual 25, 3) := by decide +kernel
theorem dL_holds_323 : decode cL_holds 323 = .ok (.iload 4, 2) := by decide +kernel
theorem dL_holds_325 : decode cL_holds 325 = .ok (.if_icmp .lt 34, 3) := by decide +kernel
theorem dL_holds_328 : decode cL_holds 328 = .ok (.aload_n 0, 1) := by decide +kernel
theorem dL_holds_329 : decode cL_holds 329 = .ok (.iload 5, 2) := by decide +kernel
theorem dL_holds_331 : decode cL_holds 331 = .ok (.iconst 3, 1) := by decide +kernel
theorem dL_holds_332 : decode cL_holds 332 = .ok (.invokevirtual 25, 3) := by decide +kernel
theorem dL_holds_335 : decode cL_holds 335 = .ok (.ifCond .le 24, 3) := by decide +kernel
theorem dL_holds_338 : decode cL_holds 338 = .ok (.aload_n 0, 1) := by decide +kernel
theorem dL_holds_339 : decode cL_holds 339 = .ok (.iload 5, 2) := by decide +kernel
theorem dL_holds_341 : decode cL_holds 341 = .ok (.iconst 3, 1) := by decide +kernel
theorem dL_holds_342 : decode cL_holds 342 = .ok (.invokevirtual 25, 3) := by decide +kernel
theorem dL_holds_345 : decode cL_holds 345 = .ok (.aload_n 0, 1) := by decide +kernel
theorem dL_holds_346 : decode cL_holds 346 = .ok (.iload 5, 2) := by decide +kernel
theorem dL_holds_348 : decode cL_holds 348 = .ok (.iconst 1, 1) := by decide +kernel
theorem dL_holds_349 : decode cL_holds 349 = .ok (.invokevirtual 25, 3) := by decide +kernel
theorem dL_holds_352 : decode cL_holds 352 = .ok (.if_icmp .gt 7, 3) := by decide +kernel
theorem dL_holds_355 : decode cL_holds 355 = .ok (.iconst 1, 1) := by decide +kernel
theorem dL_holds_356 : decode cL_holds 356 = .ok (.goto 4, 3) := by decide +kernel
theorem dL_holds_359 : decode cL_holds 359 = .ok (.iconst 0, 1) := by decide +kernel
theorem dL_holds_360 : decode cL_holds 360 = .ok (.istore_n 1, 1) := by decide +kernel
theorem dL_holds_361 : decode cL_holds 361 = .ok (.aload_n 0, 1) := by decide +kernel
theorem dL_holds_362 : decode cL_holds 362 = .ok (.iload 5, 2) := by decide +kernel
theorem dL_holds_364 : decode cL_holds 364 = .ok (.iconst 0, 1) := by decide +kernel
theorem dL_holds_365 : decode cL_holds 365 = .ok (.invokevirtual 25, 3) := by decide +kernel
theorem dL_holds_368 : decode cL_holds 368 = .ok (.istore 4, 2) := by decide +kernel
theorem dL_holds_370 : decode cL_holds 370 = .ok (.iinc 5 1, 3) := by decide +kernel
theorem dL_holds_373 : decode cL_holds 373 = .ok (.goto (-71), 3) := by decide +kernel
theorem dL_holds_376 : decode cL_holds 376 = .ok (.iload_n 1, 1) := by decide +kernel
theorem dL_holds_377 : decode cL_holds 377 = .ok (.ifCond .eq 38, 3) := by decide +kernel
theorem dL_holds_380 : decode cL_holds 380 = .ok (.iload_n 3, 1) := by decide +kernel
theorem dL_holds_381 : decode cL_holds 381 = .ok (.iload_n 2, 1) := by decide +kernel
theorem dL_holds_382 : decode cL_holds 382 = .ok (.if_icmp .ne 33, 3) := by decide +kernel
theorem dL_holds_385 : decode cL_holds 385 = .ok (.iload_n 2, 1) := by decide +kernel
theorem dL_holds_386 : decode cL_holds 386 = .ok (.ifCond .ne 7, 3) := by decide +kernel
theorem dL_holds_389 : decode cL_holds 389 = .ok (.iconst 1, 1) := by decide +kernel
theorem dL_holds_390 : decode cL_holds 390 = .ok (.goto 4, 3) := by decide +kernel
theorem dL_holds_393 : decode cL_holds 393 = .ok (.iconst 0, 1) := by decide +kernel
theorem dL_holds_394 : decode cL_holds 394 = .ok (.aload_n 0, 1) := by decide +kernel
theorem dL_holds_395 : decode cL_holds 395 = .ok (.invokevirtual 28, 3) := by decide +kernel
theorem dL_holds_398 : decode cL_holds 398 = .ok (.bipush (-4), 2) := by decide +kernel
theorem dL_holds_400 : decode cL_holds 400 = .ok (.if_icmp .ne 7, 3) := by decide +kernel
theorem dL_holds_403 : decode cL_holds 403 = .ok (.iconst 1, 1) := by decide +kernel
theorem dL_holds_404 : decode cL_holds 404 = .ok (.goto 4, 3) := by decide +kernel
theorem dL_holds_407 : decode cL_holds 407 = .ok (.iconst 0, 1) := by decide +kernel
theorem dL_holds_408 : decode cL_holds 408 = .ok (.if_icmp .ne 7, 3) := by decide +kernel
theorem dL_holds_411 : decode cL_holds 411 = .ok (.iconst 1, 1) := by decide +kernel
theorem dL_holds_412 : decode cL_holds 412 = .ok (.goto 4, 3) := by decide +kernel
theorem dL_holds_415 : decode cL_holds 415 = .ok (.iconst 0, 1) := by decide +kernel
theorem dL_holds_416 : decode cL_holds 416 = .ok (.ireturn, 1) := by decide +kernel
theorem dL_parted_0 : decode cL_parted 0 = .ok (.aload_n 0, 1) := by decide +kernel
theorem dL_parted_1 : decode cL_parted 1 = .ok (.iload_n 1, 1) := by decide +kernel
theorem dL_parted_2 : decode cL_parted 2 = .ok (.invokevirtual 32, 3) := by decide +kernel
theorem dL_parted_5 : decode cL_parted 5 = .ok (.istore_n 3, 1) := by decide +kernel
theorem dL_parted_6 : decode cL_parted 6 = .ok (.iload_n 3, 1) := by decide +kernel
theorem dL_parted_7 : decode cL_parted 7 = .ok (.ifCond .ge 28, 3) := by decide +kernel
theorem dL_parted_10 : decode cL_parted 10 = .ok (.iload_n 3, 1) := by decide +kernel
theorem dL_parted_11 : decode cL_parted 11 = .ok (.bipush (-3), 2) := by decide +kernel
theorem dL_parted_13 : decode cL_parted 13 = .ok (.if_icmp .ne 20, 3) := by decide +kernel
theorem dL_parted_16 : decode cL_parted 16 = .ok (.aload_n 0, 1) := by decide +kernel
theorem dL_parted_17 : decode cL_parted 17 = .ok (.iconst 0, 1) := by decide +kernel
theorem dL_parted_18 : decode cL_parted 18 = .ok (.invokevirtual 15, 3) := by decide +kernel
theorem dL_parted_21 : decode cL_parted 21 = .ok (.iload_n 1, 1) := by decide +kernel
theorem dL_parted_22 : decode cL_parted 22 = .ok (.iadd, 1) := by decide +kernel
theorem dL_parted_23 : decode cL_parted 23 = .ok (.sipush 5000, 3) := by decide +kernel
theorem dL_parted_26 : decode cL_parted 26 = .ok (.if_icmp .le 7, 3) := by decide +kernel
theorem dL_parted_29 : decode cL_parted 29 = .ok (.iconst 1, 1) := by decide +kernel
theorem dL_parted_30 : decode cL_parted 30 = .ok (.goto 4, 3) := by decide +kernel
theorem dL_parted_33 : decode cL_parted 33 = .ok (.iconst 0, 1) := by decide +kernel
theorem dL_parted_34 : decode cL_parted 34 = .ok (.ireturn, 1) := by decide +kernel
theorem dL_parted_35 : decode cL_parted 35 = .ok (.bipush 12, 2) := by decide +kernel
theorem dL_parted_37 : decode cL_parted 37 = .ok (.newarray .int, 2) := by decide +kernel
theorem dL_parted_39 : decode cL_parted 39 = .ok (.astore 4, 2) := by decide +kernel
theorem dL_parted_41 : decode cL_parted 41 = .ok (.iconst 0, 1) := by decide +kernel
theorem dL_parted_42 : decode cL_parted 42 = .ok (.istore 5, 2) := by decide +kernel
theorem dL_parted_44 : decode cL_parted 44 = .ok (.iload 5, 2) := by decide +kernel
theorem dL_parted_46 : decode cL_parted 46 = .ok (.bipush 12, 2) := by decide +kernel
theorem dL_parted_48 : decode cL_parted 48 = .ok (.if_icmp .ge 52, 3) := by decide +kernel
theorem dL_parted_51 : decode cL_parted 51 = .ok (.aload 4, 2) := by decide +kernel
theorem dL_parted_53 : decode cL_parted 53 = .ok (.iload 5, 2) := by decide +kernel
theorem dL_parted_55 : decode cL_parted 55 = .ok (.iload 5, 2) := by decide +kernel
theorem dL_parted_57 : decode cL_parted 57 = .ok (.iconst 5, 1) := by decide +kernel
theorem dL_parted_58 : decode cL_parted 58 = .ok (.if_icmp .ge 12, 3) := by decide +kernel
theorem dL_parted_61 : decode cL_parted 61 = .ok (.aload_n 0, 1) := by decide +kernel
theorem dL_parted_62 : decode cL_parted 62 = .ok (.iload 5, 2) := by decide +kernel
theorem dL_parted_64 : decode cL_parted 64 = .ok (.invokevirtual 9, 3) := by decide +kernel
theorem dL_parted_67 : decode cL_parted 67 = .ok (.goto 26, 3) := by decide +kernel
theorem dL_parted_70 : decode cL_parted 70 = .ok (.iload 5, 2) := by decide +kernel
theorem dL_parted_72 : decode cL_parted 72 = .ok (.bipush 11, 2) := by decide +kernel
theorem dL_parted_74 : decode cL_parted 74 = .ok (.if_icmp .ge 14, 3) := by decide +kernel
theorem dL_parted_77 : decode cL_parted 77 = .ok (.aload_n 0, 1) := by decide +kernel
theorem dL_parted_78 : decode cL_parted 78 = .ok (.iload 5, 2) := by decide +kernel
theorem dL_parted_80 : decode cL_parted 80 = .ok (.iconst 1, 1) := by decide +kernel
theorem dL_parted_81 : decode cL_parted 81 = .ok (.isub, 1) := by decide +kernel
theorem dL_parted_82 : decode cL_parted 82 = .ok (.invokevirtual 15, 3) := by decide +kernel
theorem dL_parted_85 : decode cL_parted 85 = .ok (.goto 8, 3) := by decide +kernel
theorem dL_parted_88 : decode cL_parted 88 = .ok (.aload_n 0, 1) := by decide +kernel
theorem dL_parted_89 : decode cL_parted 89 = .ok (.iconst 2, 1) := by decide +kernel
theorem dL_parted_90 : decode cL_parted 90 = .ok (.invokevirtual 15, 3) := by decide +kernel
theorem dL_parted_93 : decode cL_parted 93 = .ok (.iastore, 1) := by decide +kernel
theorem dL_parted_94 : decode cL_parted 94 = .ok (.iinc 5 1, 3) := by decide +kernel
theorem dL_parted_97 : decode cL_parted 97 = .ok (.goto (-53), 3) := by decide +kernel
theorem dL_parted_100 : decode cL_parted 100 = .ok (.aload_n 0, 1) := by decide +kernel
theorem dL_parted_101 : decode cL_parted 101 = .ok (.invokestatic 35, 3) := by decide +kernel
theorem dL_parted_104 : decode cL_parted 104 = .ok (.ifCond .eq 14, 3) := by decide +kernel
theorem dL_parted_107 : decode cL_parted 107 = .ok (.aload_n 0, 1) := by decide +kernel
theorem dL_parted_108 : decode cL_parted 108 = .ok (.invokevirtual 41, 3) := by decide +kernel
theorem dL_parted_111 : decode cL_parted 111 = .ok (.ifCond .lt 7, 3) := by decide +kernel
theorem dL_parted_114 : decode cL_parted 114 = .ok (.iconst 1, 1) := by decide +kernel
theorem dL_parted_115 : decode cL_parted 115 = .ok (.goto 4, 3) := by decide +kernel
theorem dL_parted_118 : decode cL_parted 118 = .ok (.iconst 0, 1) := by decide +kernel
theorem dL_parted_119 : decode cL_parted 119 = .ok (.istore 5, 2) := by decide +kernel
theorem dL_parted_121 : decode cL_parted 121 = .ok (.iload_n 2, 1) := by decide +kernel
theorem dL_parted_122 : decode cL_parted 122 = .ok (.ifCond .le 11, 3) := by decide +kernel
theorem dL_parted_125 : decode cL_parted 125 = .ok (.aload_n 0, 1) := by decide +kernel
theorem dL_parted_126 : decode cL_parted 126 = .ok (.iload_n 2, 1) := by decide +kernel
theorem dL_parted_127 : decode cL_parted 127 = .ok (.invokevirtual 32, 3) := by decide +kernel
theorem dL_parted_130 : decode cL_parted 130 = .ok (.goto 4, 3) := by decide +kernel
theorem dL_parted_133 : decode cL_parted 133 = .ok (.iconst 0, 1) := by decide +kernel
theorem dL_parted_134 : decode cL_parted 134 = .ok (.istore 6, 2) := by decide +kernel
theorem dL_parted_136 : decode cL_parted 136 = .ok (.iload_n 2, 1) := by decide +kernel
theorem dL_parted_137 : decode cL_parted 137 = .ok (.iload_n 1, 1) := by decide +kernel
theorem dL_parted_138 : decode cL_parted 138 = .ok (.if_icmp .ge 13, 3) := by decide +kernel
theorem dL_parted_141 : decode cL_parted 141 = .ok (.aload_n 0, 1) := by decide +kernel
theorem dL_parted_142 : decode cL_parted 142 = .ok (.iload_n 1, 1) := by decide +kernel
theorem dL_parted_143 : decode cL_parted 143 = .ok (.iload_n 2, 1) := by decide +kernel
theorem dL_parted_144 : decode cL_parted 144 = .ok (.isub, 1) := by decide +kernel
theorem dL_parted_145 : decode cL_parted 145 = .ok (.invokevirtual 32, 3) := by decide +kernel
theorem dL_parted_148 : decode cL_parted 148 = .ok (.goto 4, 3) := by decide +kernel
theorem dL_parted_151 : decode cL_parted 151 = .ok (.iconst 0, 1) := by decide +kernel
theorem dL_parted_152 : decode cL_parted 152 = .ok (.istore 7, 2) := by decide +kernel
theorem dL_parted_154 : decode cL_parted 154 = .ok (.iload 5, 2) := by decide +kernel
theorem dL_parted_156 : decode cL_parted 156 = .ok (.ifCond .eq 16, 3) := by decide +kernel
theorem dL_parted_159 : decode cL_parted 159 = .ok (.iload 6, 2) := by decide +kernel
theorem dL_parted_161 : decode cL_parted 161 = .ok (.iload 7, 2) := by decide +kernel
theorem dL_parted_163 : decode cL_parted 163 = .ok (.iadd, 1) := by decide +kernel
theorem dL_parted_164 : decode cL_parted 164 = .ok (.iload_n 3, 1) := by decide +kernel
theorem dL_parted_165 : decode cL_parted 165 = .ok (.if_icmp .ne 7, 3) := by decide +kernel
theorem dL_parted_168 : decode cL_parted 168 = .ok (.iconst 1, 1) := by decide +kernel
theorem dL_parted_169 : decode cL_parted 169 = .ok (.goto 4, 3) := by decide +kernel
theorem dL_parted_172 : decode cL_parted 172 = .ok (.iconst 0, 1) := by decide +kernel
theorem dL_parted_173 : decode cL_parted 173 = .ok (.istore 5, 2) := by decide +kernel
theorem dL_parted_175 : decode cL_parted 175 = .ok (.iconst 0, 1) := by decide +kernel
theorem dL_parted_176 : decode cL_parted 176 = .ok (.istore 8, 2) := by decide +kernel
theorem dL_parted_178 : decode cL_parted 178 = .ok (.iload 8, 2) := by decide +kernel
theorem dL_parted_180 : decode cL_parted 180 = .ok (.bipush 12, 2) := by decide +kernel
theorem dL_parted_182 : decode cL_parted 182 = .ok (.if_icmp .ge 67, 3) := by decide +kernel
theorem dL_parted_185 : decode cL_parted 185 = .ok (.iload 5, 2) := by decide +kernel
theorem dL_parted_187 : decode cL_parted 187 = .ok (.ifCond .eq 62, 3) := by decide +kernel
theorem dL_parted_190 : decode cL_parted 190 = .ok (.aload 4, 2) := by decide +kernel
theorem dL_parted_192 : decode cL_parted 192 = .ok (.iload 8, 2) := by decide +kernel
theorem dL_parted_194 : decode cL_parted 194 = .ok (.iaload, 1) := by decide +kernel
theorem dL_parted_195 : decode cL_parted 195 = .ok (.iload 8, 2) := by decide +kernel
theorem dL_parted_197 : decode cL_parted 197 = .ok (.iconst 5, 1) := by decide +kernel
theorem dL_parted_198 : decode cL_parted 198 = .ok (.if_icmp .ge 12, 3) := by decide +kernel
theorem dL_parted_201 : decode cL_parted 201 = .ok (.aload_n 0, 1) := by decide +kernel
theorem dL_parted_202 : decode cL_parted 202 = .ok (.iload 8, 2) := by decide +kernel
theorem dL_parted_204 : decode cL_parted 204 = .ok (.invokevirtual 9, 3) := by decide +kernel
theorem dL_parted_207 : decode cL_parted 207 = .ok (.goto 26, 3) := by decide +kernel
theorem dL_parted_210 : decode cL_parted 210 = .ok (.iload 8, 2) := by decide +kernel
theorem dL_parted_212 : decode cL_parted 212 = .ok (.bipush 11, 2) := by decide +kernel
theorem dL_parted_214 : decode cL_parted 214 = .ok (.if_icmp .ge 14, 3) := by decide +kernel
theorem dL_parted_217 : decode cL_parted 217 = .ok (.aload_n 0, 1) := by decide +kernel
theorem dL_parted_218 : decode cL_parted 218 = .ok (.iload 8, 2) := by decide +kernel
theorem dL_parted_220 : decode cL_parted 220 = .ok (.iconst 1, 1) := by decide +kernel
theorem dL_parted_221 : decode cL_parted 221 = .ok (.isub, 1) := by decide +kernel
theorem dL_parted_222 : decode cL_parted 222 = .ok (.invokevirtual 15, 3) := by decide +kernel
theorem dL_parted_225 : decode cL_parted 225 = .ok (.goto 8, 3) := by decide +kernel
theorem dL_parted_228 : decode cL_parted 228 = .ok (.aload_n 0, 1) := by decide +kernel
theorem dL_parted_229 : decode cL_parted 229 = .ok (.iconst 2, 1) := by decide +kernel
theorem dL_parted_230 : decode cL_parted 230 = .ok (.invokevirtual 15, 3) := by decide +kernel
theorem dL_parted_233 : decode cL_parted 233 = .ok (.if_icmp .ne 7, 3) := by decide +kernel
theorem dL_parted_236 : decode cL_parted 236 = .ok (.iconst 1, 1) := by decide +kernel
theorem dL_parted_237 : decode cL_parted 237 = .ok (.goto 4, 3) := by decide +kernel
theorem dL_parted_240 : decode cL_parted 240 = .ok (.iconst 0, 1) := by decide +kernel
theorem dL_parted_241 : decode cL_parted 241 = .ok (.istore 5, 2) := by decide +kernel
theorem dL_parted_243 : decode cL_parted 243 = .ok (.iinc 8 1, 3) := by decide +kernel
theorem dL_parted_246 : decode cL_parted 246 = .ok (.goto (-68), 3) := by decide +kernel
theorem dL_parted_249 : decode cL_parted 249 = .ok (.iload 5, 2) := by decide +kernel
theorem dL_parted_251 : decode cL_parted 251 = .ok (.ireturn, 1) := by decide +kernel
theorem dL_law_0 : decode cL_law 0 = .ok (.new 10, 3) := by decide +kernel
theorem dL_law_3 : decode cL_law 3 = .ok (.dup, 1) := by decide +kernel
theorem dL_law_4 : decode cL_law 4 = .ok (.invokespecial 44, 3) := by decide +kernel
theorem dL_law_7 : decode cL_law 7 = .ok (.astore_n 1, 1) := by decide +kernel
theorem dL_law_8 : decode cL_law 8 = .ok (.aload_n 1, 1) := by decide +kernel
theorem dL_law_9 : decode cL_law 9 = .ok (.invokestatic 35, 3) := by decide +kernel
theorem dL_law_12 : decode cL_law 12 = .ok (.ifCond .eq 79, 3) := by decide +kernel
theorem dL_law_15 : decode cL_law 15 = .ok (.aload_n 1, 1) := by decide +kernel
theorem dL_law_16 : decode cL_law 16 = .ok (.iconst 0, 1) := by decide +kernel
theorem dL_law_17 : decode cL_law 17 = .ok (.bipush 20, 2) := by decide +kernel
theorem dL_law_19 : decode cL_law 19 = .ok (.aload_n 0, 1) := by decide +kernel
theorem dL_law_20 : decode cL_law 20 = .ok (.iconst 0, 1) := by decide +kernel
theorem dL_law_21 : decode cL_law 21 = .ok (.invokestatic 45, 3) := by decide +kernel
theorem dL_law_24 : decode cL_law 24 = .ok (.sipush 150, 3) := by decide +kernel
theorem dL_law_27 : decode cL_law 27 = .ok (.irem, 1) := by decide +kernel
theorem dL_law_28 : decode cL_law 28 = .ok (.iadd, 1) := by decide +kernel
theorem dL_law_29 : decode cL_law 29 = .ok (.invokevirtual 49, 3) := by decide +kernel
theorem dL_law_32 : decode cL_law 32 = .ok (.bipush 100, 2) := by decide +kernel
theorem dL_law_34 : decode cL_law 34 = .ok (.if_icmp .ne 57, 3) := by decide +kernel
theorem dL_law_37 : decode cL_law 37 = .ok (.aload_n 1, 1) := by decide +kernel
theorem dL_law_38 : decode cL_law 38 = .ok (.iconst 1, 1) := by decide +kernel
theorem dL_law_39 : decode cL_law 39 = .ok (.aload_n 0, 1) := by decide +kernel
theorem dL_law_40 : decode cL_law 40 = .ok (.iconst 1, 1) := by decide +kernel
theorem dL_law_41 : decode cL_law 41 = .ok (.invokestatic 45, 3) := by decide +kernel
theorem dL_law_44 : decode cL_law 44 = .ok (.bipush 10, 2) := by decide +kernel
theorem dL_law_46 : decode cL_law 46 = .ok (.irem, 1) := by decide +kernel
theorem dL_law_47 : decode cL_law 47 = .ok (.invokevirtual 49, 3) := by decide +kernel
theorem dL_law_50 : decode cL_law 50 = .ok (.iconst 2, 1) := by decide +kernel
theorem dL_law_51 : decode cL_law 51 = .ok (.if_icmp .ne 40, 3) := by decide +kernel
theorem dL_law_54 : decode cL_law 54 = .ok (.aload_n 1, 1) := by decide +kernel
theorem dL_law_55 : decode cL_law 55 = .ok (.iconst 4, 1) := by decide +kernel
theorem dL_law_56 : decode cL_law 56 = .ok (.aload_n 0, 1) := by decide +kernel
theorem dL_law_57 : decode cL_law 57 = .ok (.iconst 2, 1) := by decide +kernel
theorem dL_law_58 : decode cL_law 58 = .ok (.invokestatic 45, 3) := by decide +kernel
theorem dL_law_61 : decode cL_law 61 = .ok (.iconst 5, 1) := by decide +kernel
theorem dL_law_62 : decode cL_law 62 = .ok (.irem, 1) := by decide +kernel
theorem dL_law_63 : decode cL_law 63 = .ok (.invokevirtual 49, 3) := by decide +kernel
theorem dL_law_66 : decode cL_law 66 = .ok (.ifCond .ne 25, 3) := by decide +kernel
theorem dL_law_69 : decode cL_law 69 = .ok (.aload_n 1, 1) := by decide +kernel
theorem dL_law_70 : decode cL_law 70 = .ok (.iconst 2, 1) := by decide +kernel
theorem dL_law_71 : decode cL_law 71 = .ok (.aload_n 0, 1) := by decide +kernel
theorem dL_law_72 : decode cL_law 72 = .ok (.iconst 3, 1) := by decide +kernel
theorem dL_law_73 : decode cL_law 73 = .ok (.invokestatic 45, 3) := by decide +kernel
theorem dL_law_76 : decode cL_law 76 = .ok (.bipush 60, 2) := by decide +kernel
theorem dL_law_78 : decode cL_law 78 = .ok (.irem, 1) := by decide +kernel
theorem dL_law_79 : decode cL_law 79 = .ok (.invokevirtual 49, 3) := by decide +kernel
theorem dL_law_82 : decode cL_law 82 = .ok (.bipush 10, 2) := by decide +kernel
theorem dL_law_84 : decode cL_law 84 = .ok (.if_icmp .ne 7, 3) := by decide +kernel
theorem dL_law_87 : decode cL_law 87 = .ok (.iconst 1, 1) := by decide +kernel
theorem dL_law_88 : decode cL_law 88 = .ok (.goto 4, 3) := by decide +kernel
theorem dL_law_91 : decode cL_law 91 = .ok (.iconst 0, 1) := by decide +kernel
theorem dL_law_92 : decode cL_law 92 = .ok (.istore_n 2, 1) := by decide +kernel
theorem dL_law_93 : decode cL_law 93 = .ok (.iconst 0, 1) := by decide +kernel
theorem dL_law_94 : decode cL_law 94 = .ok (.istore_n 3, 1) := by decide +kernel
theorem dL_law_95 : decode cL_law 95 = .ok (.iload_n 3, 1) := by decide +kernel
theorem dL_law_96 : decode cL_law 96 = .ok (.bipush 20, 2) := by decide +kernel
theorem dL_law_98 : decode cL_law 98 = .ok (.if_icmp .ge 323, 3) := by decide +kernel
theorem dL_law_101 : decode cL_law 101 = .ok (.iload_n 2, 1) := by decide +kernel
theorem dL_law_102 : decode cL_law 102 = .ok (.ifCond .eq 319, 3) := by decide +kernel
theorem dL_law_105 : decode cL_law 105 = .ok (.aload_n 0, 1) := by decide +kernel
theorem dL_law_106 : decode cL_law 106 = .ok (.iconst 4, 1) := by decide +kernel
theorem dL_law_107 : decode cL_law 107 = .ok (.iload_n 3, 1) := by decide +kernel
theorem dL_law_108 : decode cL_law 108 = .ok (.iadd, 1) := by decide +kernel
theorem dL_law_109 : decode cL_law 109 = .ok (.invokestatic 45, 3) := by decide +kernel
theorem dL_law_112 : decode cL_law 112 = .ok (.istore 4, 2) := by decide +kernel
theorem dL_law_114 : decode cL_law 114 = .ok (.aload_n 1, 1) := by decide +kernel
theorem dL_law_115 : decode cL_law 115 = .ok (.aload_n 1, 1) := by decide +kernel
theorem dL_law_116 : decode cL_law 116 = .ok (.iconst 0, 1) := by decide +kernel
theorem dL_law_117 : decode cL_law 117 = .ok (.invokevirtual 15, 3) := by decide +kernel
theorem dL_law_120 : decode cL_law 120 = .ok (.iload 4, 2) := by decide +kernel
theorem dL_law_122 : decode cL_law 122 = .ok (.bipush 60, 2) := by decide +kernel
theorem dL_law_124 : decode cL_law 124 = .ok (.irem, 1) := by decide +kernel
theorem dL_law_125 : decode cL_law 125 = .ok (.iadd, 1) := by decide +kernel
theorem dL_law_126 : decode cL_law 126 = .ok (.iconst 1, 1) := by decide +kernel
theorem dL_law_127 : decode cL_law 127 = .ok (.iload 4, 2) := by decide +kernel
theorem dL_law_129 : decode cL_law 129 = .ok (.bipush 6, 2) := by decide +kernel
theorem dL_law_131 : decode cL_law 131 = .ok (.ishr, 1) := by decide +kernel
theorem dL_law_132 : decode cL_law 132 = .ok (.bipush 80, 2) := by decide +kernel
theorem dL_law_134 : decode cL_law 134 = .ok (.irem, 1) := by decide +kernel
theorem dL_law_135 : decode cL_law 135 = .ok (.iadd, 1) := by decide +kernel
theorem dL_law_136 : decode cL_law 136 = .ok (.iconst 1, 1) := by decide +kernel
theorem dL_law_137 : decode cL_law 137 = .ok (.iload 4, 2) := by decide +kernel
theorem dL_law_139 : decode cL_law 139 = .ok (.bipush 12, 2) := by decide +kernel
theorem dL_law_141 : decode cL_law 141 = .ok (.ishr, 1) := by decide +kernel
theorem dL_law_142 : decode cL_law 142 = .ok (.bipush 120, 2) := by decide +kernel
theorem dL_law_144 : decode cL_law 144 = .ok (.irem, 1) := by decide +kernel
theorem dL_law_145 : decode cL_law 145 = .ok (.iadd, 1) := by decide +kernel
theorem dL_law_146 : decode cL_law 146 = .ok (.invokevirtual 52, 3) := by decide +kernel
theorem dL_law_149 : decode cL_law 149 = .ok (.istore 5, 2) := by decide +kernel
theorem dL_law_151 : decode cL_law 151 = .ok (.iload 5, 2) := by decide +kernel
theorem dL_law_153 : decode cL_law 153 = .ok (.bipush (-3), 2) := by decide +kernel
theorem dL_law_155 : decode cL_law 155 = .ok (.if_icmp .ne 13, 3) := by decide +kernel
theorem dL_law_158 : decode cL_law 158 = .ok (.aload_n 1, 1) := by decide +kernel
theorem dL_law_159 : decode cL_law 159 = .ok (.iconst 1, 1) := by decide +kernel
theorem dL_law_160 : decode cL_law 160 = .ok (.invokevirtual 15, 3) := by decide +kernel
theorem dL_law_163 : decode cL_law 163 = .ok (.bipush 12, 2) := by decide +kernel
theorem dL_law_165 : decode cL_law 165 = .ok (.if_icmp .eq 28, 3) := by decide +kernel
theorem dL_law_168 : decode cL_law 168 = .ok (.iload 5, 2) := by decide +kernel
theorem dL_law_170 : decode cL_law 170 = .ok (.ifCond .lt 27, 3) := by decide +kernel
theorem dL_law_173 : decode cL_law 173 = .ok (.aload_n 1, 1) := by decide +kernel
theorem dL_law_174 : decode cL_law 174 = .ok (.iload 5, 2) := by decide +kernel
theorem dL_law_176 : decode cL_law 176 = .ok (.iconst 2, 1) := by decide +kernel
theorem dL_law_177 : decode cL_law 177 = .ok (.invokevirtual 25, 3) := by decide +kernel
theorem dL_law_180 : decode cL_law 180 = .ok (.iconst 1, 1) := by decide +kernel
theorem dL_law_181 : decode cL_law 181 = .ok (.iload 4, 2) := by decide +kernel
theorem dL_law_183 : decode cL_law 183 = .ok (.bipush 12, 2) := by decide +kernel
theorem dL_law_185 : decode cL_law 185 = .ok (.ishr, 1) := by decide +kernel
theorem dL_law_186 : decode cL_law 186 = .ok (.bipush 120, 2) := by decide +kernel
theorem dL_law_188 : decode cL_law 188 = .ok (.irem, 1) := by decide +kernel
theorem dL_law_189 : decode cL_law 189 = .ok (.iadd, 1) := by decide +kernel
theorem dL_law_190 : decode cL_law 190 = .ok (.if_icmp .ne 7, 3) := by decide +kernel
theorem dL_law_193 : decode cL_law 193 = .ok (.iconst 1, 1) := by decide +kernel
theorem dL_law_194 : decode cL_law 194 = .ok (.goto 4, 3) := by decide +kernel
theorem dL_law_197 : decode cL_law 197 = .ok (.iconst 0, 1) := by decide +kernel
theorem dL_law_198 : decode cL_law 198 = .ok (.istore_n 2, 1) := by decide +kernel
theorem dL_law_199 : decode cL_law 199 = .ok (.iload 4, 2) := by decide +kernel
theorem dL_law_201 : decode cL_law 201 = .ok (.iconst 5, 1) := by decide +kernel
theorem dL_law_202 : decode cL_law 202 = .ok (.irem, 1) := by decide +kernel
theorem dL_law_203 : decode cL_law 203 = .ok (.ifCond .ne 33, 3) := by decide +kernel
theorem dL_law_206 : decode cL_law 206 = .ok (.iload_n 2, 1) := by decide +kernel
theorem dL_law_207 : decode cL_law 207 = .ok (.ifCond .eq 27, 3) := by decide +kernel
theorem dL_law_210 : decode cL_law 210 = .ok (.aload_n 1, 1) := by decide +kernel
theorem dL_law_211 : decode cL_law 211 = .ok (.invokevirtual 56, 3) := by decide +kernel
theorem dL_law_214 : decode cL_law 214 = .ok (.ifCond .lt 20, 3) := by decide +kernel
theorem dL_law_217 : decode cL_law 217 = .ok (.aload_n 1, 1) := by decide +kernel
theorem dL_law_218 : decode cL_law 218 = .ok (.invokevirtual 59, 3) := by decide +kernel
theorem dL_law_221 : decode cL_law 221 = .ok (.aload_n 1, 1) := by decide +kernel
theorem dL_law_222 : decode cL_law 222 = .ok (.bipush 26, 2) := by decide +kernel
theorem dL_law_224 : decode cL_law 224 = .ok (.invokevirtual 15, 3) := by decide +kernel
theorem dL_law_227 : decode cL_law 227 = .ok (.if_icmp .ne 7, 3) := by decide +kernel
theorem dL_law_230 : decode cL_law 230 = .ok (.iconst 1, 1) := by decide +kernel
theorem dL_law_231 : decode cL_law 231 = .ok (.goto 4, 3) := by decide +kernel
theorem dL_law_234 : decode cL_law 234 = .ok (.iconst 0, 1) := by decide +kernel
theorem dL_law_235 : decode cL_law 235 = .ok (.istore_n 2, 1) := by decide +kernel
theorem dL_law_236 : decode cL_law 236 = .ok (.iconst 2, 1) := by decide +kernel
theorem dL_law_237 : decode cL_law 237 = .ok (.iload 4, 2) := by decide +kernel
theorem dL_law_239 : decode cL_law 239 = .ok (.iconst 3, 1) := by decide +kernel
theorem dL_law_240 : decode cL_law 240 = .ok (.ishr, 1) := by decide +kernel
theorem dL_law_241 : decode cL_law 241 = .ok (.bipush 90, 2) := by decide +kernel
theorem dL_law_243 : decode cL_law 243 = .ok (.irem, 1) := by decide +kernel
theorem dL_law_244 : decode cL_law 244 = .ok (.iadd, 1) := by decide +kernel
theorem dL_law_245 : decode cL_law 245 = .ok (.istore 6, 2) := by decide +kernel
theorem dL_law_247 : decode cL_law 247 = .ok (.iload 4, 2) := by decide +kernel
theorem dL_law_249 : decode cL_law 249 = .ok (.bipush 9, 2) := by decide +kernel
theorem dL_law_251 : decode cL_law 251 = .ok (.ishr, 1) := by decide +kernel
theorem dL_law_252 : decode cL_law 252 = .ok (.iload 6, 2) := by decide +kernel
theorem dL_law_254 : decode cL_law 254 = .ok (.iconst 1, 1) := by decide +kernel
theorem dL_law_255 : decode cL_law 255 = .ok (.iadd, 1) := by decide +kernel
theorem dL_law_256 : decode cL_law 256 = .ok (.irem, 1) := by decide +kernel
theorem dL_law_257 : decode cL_law 257 = .ok (.istore 7, 2) := by decide +kernel
theorem dL_law_259 : decode cL_law 259 = .ok (.iload_n 2, 1) := by decide +kernel
theorem dL_law_260 : decode cL_law 260 = .ok (.ifCond .eq 25, 3) := by decide +kernel
theorem dL_law_263 : decode cL_law 263 = .ok (.aload_n 1, 1) := by decide +kernel
theorem dL_law_264 : decode cL_law 264 = .ok (.iload 6, 2) := by decide +kernel
theorem dL_law_266 : decode cL_law 266 = .ok (.iload 7, 2) := by decide +kernel
theorem dL_law_268 : decode cL_law 268 = .ok (.invokestatic 62, 3) := by decide +kernel
theorem dL_law_271 : decode cL_law 271 = .ok (.ifCond .eq 14, 3) := by decide +kernel
theorem dL_law_274 : decode cL_law 274 = .ok (.aload_n 1, 1) := by decide +kernel
theorem dL_law_275 : decode cL_law 275 = .ok (.invokestatic 35, 3) := by decide +kernel
theorem dL_law_278 : decode cL_law 278 = .ok (.ifCond .eq 7, 3) := by decide +kernel
theorem dL_law_281 : decode cL_law 281 = .ok (.iconst 1, 1) := by decide +kernel
theorem dL_law_282 : decode cL_law 282 = .ok (.goto 4, 3) := by decide +kernel
theorem dL_law_285 : decode cL_law 285 = .ok (.iconst 0, 1) := by decide +kernel
theorem dL_law_286 : decode cL_law 286 = .ok (.istore_n 2, 1) := by decide +kernel
theorem dL_law_287 : decode cL_law 287 = .ok (.iload_n 2, 1) := by decide +kernel
theorem dL_law_288 : decode cL_law 288 = .ok (.ifCond .eq 127, 3) := by decide +kernel
theorem dL_law_291 : decode cL_law 291 = .ok (.iload 4, 2) := by decide +kernel
theorem dL_law_293 : decode cL_law 293 = .ok (.iconst 4, 1) := by decide +kernel
theorem dL_law_294 : decode cL_law 294 = .ok (.irem, 1) := by decide +kernel
theorem dL_law_295 : decode cL_law 295 = .ok (.ifCond .ne 120, 3) := by decide +kernel
theorem dL_law_298 : decode cL_law 298 = .ok (.aload_n 1, 1) := by decide +kernel
theorem dL_law_299 : decode cL_law 299 = .ok (.iconst 0, 1) := by decide +kernel
theorem dL_law_300 : decode cL_law 300 = .ok (.invokevirtual 15, 3) := by decide +kernel
theorem dL_law_303 : decode cL_law 303 = .ok (.bipush 40, 2) := by decide +kernel
theorem dL_law_305 : decode cL_law 305 = .ok (.iadd, 1) := by decide +kernel
theorem dL_law_306 : decode cL_law 306 = .ok (.sipush 5000, 3) := by decide +kernel
theorem dL_law_309 : decode cL_law 309 = .ok (.if_icmp .gt 106, 3) := by decide +kernel
theorem dL_law_312 : decode cL_law 312 = .ok (.aload_n 1, 1) := by decide +kernel
theorem dL_law_313 : decode cL_law 313 = .ok (.iconst 3, 1) := by decide +kernel
theorem dL_law_314 : decode cL_law 314 = .ok (.invokevirtual 9, 3) := by decide +kernel
theorem dL_law_317 : decode cL_law 317 = .ok (.istore 8, 2) := by decide +kernel
theorem dL_law_319 : decode cL_law 319 = .ok (.aload_n 1, 1) := by decide +kernel
theorem dL_law_320 : decode cL_law 320 = .ok (.iconst 2, 1) := by decide +kernel
theorem dL_law_321 : decode cL_law 321 = .ok (.invokevirtual 9, 3) := by decide +kernel
theorem dL_law_324 : decode cL_law 324 = .ok (.istore 9, 2) := by decide +kernel
theorem dL_law_326 : decode cL_law 326 = .ok (.aload_n 1, 1) := by decide +kernel
theorem dL_law_327 : decode cL_law 327 = .ok (.bipush 40, 2) := by decide +kernel
theorem dL_law_329 : decode cL_law 329 = .ok (.iconst 2, 1) := by decide +kernel
theorem dL_law_330 : decode cL_law 330 = .ok (.invokevirtual 66, 3) := by decide +kernel
theorem dL_law_333 : decode cL_law 333 = .ok (.aload_n 1, 1) := by decide +kernel
theorem dL_law_334 : decode cL_law 334 = .ok (.bipush 40, 2) := by decide +kernel
theorem dL_law_336 : decode cL_law 336 = .ok (.iconst 3, 1) := by decide +kernel
theorem dL_law_337 : decode cL_law 337 = .ok (.invokevirtual 66, 3) := by decide +kernel
theorem dL_law_340 : decode cL_law 340 = .ok (.iadd, 1) := by decide +kernel
theorem dL_law_341 : decode cL_law 341 = .ok (.istore 10, 2) := by decide +kernel
theorem dL_law_343 : decode cL_law 343 = .ok (.aload_n 1, 1) := by decide +kernel
theorem dL_law_344 : decode cL_law 344 = .ok (.bipush 40, 2) := by decide +kernel
theorem dL_law_346 : decode cL_law 346 = .ok (.iload 10, 2) := by decide +kernel
theorem dL_law_348 : decode cL_law 348 = .ok (.invokevirtual 69, 3) := by decide +kernel
theorem dL_law_351 : decode cL_law 351 = .ok (.istore 11, 2) := by decide +kernel
theorem dL_law_353 : decode cL_law 353 = .ok (.iload 11, 2) := by decide +kernel
theorem dL_law_355 : decode cL_law 355 = .ok (.bipush 20, 2) := by decide +kernel
theorem dL_law_357 : decode cL_law 357 = .ok (.if_icmp .lt 56, 3) := by decide +kernel
theorem dL_law_360 : decode cL_law 360 = .ok (.iload 11, 2) := by decide +kernel
theorem dL_law_362 : decode cL_law 362 = .ok (.aload_n 1, 1) := by decide +kernel
theorem dL_law_363 : decode cL_law 363 = .ok (.bipush 20, 2) := by decide +kernel
theorem dL_law_365 : decode cL_law 365 = .ok (.invokevirtual 15, 3) := by decide +kernel
theorem dL_law_368 : decode cL_law 368 = .ok (.if_icmp .gt 45, 3) := by decide +kernel
theorem dL_law_371 : decode cL_law 371 = .ok (.aload_n 1, 1) := by decide +kernel
theorem dL_law_372 : decode cL_law 372 = .ok (.bipush 40, 2) := by decide +kernel
theorem dL_law_374 : decode cL_law 374 = .ok (.invokevirtual 32, 3) := by decide +kernel
theorem dL_law_377 : decode cL_law 377 = .ok (.ifCond .lt 36, 3) := by decide +kernel
theorem dL_law_380 : decode cL_law 380 = .ok (.aload_n 1, 1) := by decide +kernel
theorem dL_law_381 : decode cL_law 381 = .ok (.iconst 3, 1) := by decide +kernel
theorem dL_law_382 : decode cL_law 382 = .ok (.invokevirtual 9, 3) := by decide +kernel
theorem dL_law_385 : decode cL_law 385 = .ok (.aload_n 1, 1) := by decide +kernel
theorem dL_law_386 : decode cL_law 386 = .ok (.iconst 2, 1) := by decide +kernel
theorem dL_law_387 : decode cL_law 387 = .ok (.invokevirtual 9, 3) := by decide +kernel
theorem dL_law_390 : decode cL_law 390 = .ok (.iadd, 1) := by decide +kernel
theorem dL_law_391 : decode cL_law 391 = .ok (.iload 8, 2) := by decide +kernel
theorem dL_law_393 : decode cL_law 393 = .ok (.iload 9, 2) := by decide +kernel
theorem dL_law_395 : decode cL_law 395 = .ok (.iadd, 1) := by decide +kernel
theorem dL_law_396 : decode cL_law 396 = .ok (.iload 10, 2) := by decide +kernel
theorem dL_law_398 : decode cL_law 398 = .ok (.iadd, 1) := by decide +kernel
theorem dL_law_399 : decode cL_law 399 = .ok (.if_icmp .ne 14, 3) := by decide +kernel
theorem dL_law_402 : decode cL_law 402 = .ok (.aload_n 1, 1) := by decide +kernel
theorem dL_law_403 : decode cL_law 403 = .ok (.invokevirtual 41, 3) := by decide +kernel
theorem dL_law_406 : decode cL_law 406 = .ok (.ifCond .lt 7, 3) := by decide +kernel
theorem dL_law_409 : decode cL_law 409 = .ok (.iconst 1, 1) := by decide +kernel
theorem dL_law_410 : decode cL_law 410 = .ok (.goto 4, 3) := by decide +kernel
theorem dL_law_413 : decode cL_law 413 = .ok (.iconst 0, 1) := by decide +kernel
theorem dL_law_414 : decode cL_law 414 = .ok (.istore_n 2, 1) := by decide +kernel
theorem dL_law_415 : decode cL_law 415 = .ok (.iinc 3 1, 3) := by decide +kernel
theorem dL_law_418 : decode cL_law 418 = .ok (.goto (-323), 3) := by decide +kernel
theorem dL_law_421 : decode cL_law 421 = .ok (.iload_n 2, 1) := by decide +kernel
theorem dL_law_422 : decode cL_law 422 = .ok (.ifCond .eq 27, 3) := by decide +kernel
theorem dL_law_425 : decode cL_law 425 = .ok (.aload_n 1, 1) := by decide +kernel
theorem dL_law_426 : decode cL_law 426 = .ok (.iconst 3, 1) := by decide +kernel
theorem dL_law_427 : decode cL_law 427 = .ok (.bipush 50, 2) := by decide +kernel
theorem dL_law_429 : decode cL_law 429 = .ok (.invokevirtual 49, 3) := by decide +kernel
theorem dL_law_432 : decode cL_law 432 = .ok (.ifCond .lt 17, 3) := by decide +kernel
theorem dL_law_435 : decode cL_law 435 = .ok (.aload_n 1, 1) := by decide +kernel
theorem dL_law_436 : decode cL_law 436 = .ok (.iconst 4, 1) := by decide +kernel
theorem dL_law_437 : decode cL_law 437 = .ok (.bipush 50, 2) := by decide +kernel
theorem dL_law_439 : decode cL_law 439 = .ok (.invokevirtual 49, 3) := by decide +kernel
theorem dL_law_442 : decode cL_law 442 = .ok (.ifCond .lt 7, 3) := by decide +kernel
theorem dL_law_445 : decode cL_law 445 = .ok (.iconst 1, 1) := by decide +kernel
theorem dL_law_446 : decode cL_law 446 = .ok (.goto 4, 3) := by decide +kernel
theorem dL_law_449 : decode cL_law 449 = .ok (.iconst 0, 1) := by decide +kernel
theorem dL_law_450 : decode cL_law 450 = .ok (.istore_n 2, 1) := by decide +kernel
theorem dL_law_451 : decode cL_law 451 = .ok (.iconst 0, 1) := by decide +kernel
theorem dL_law_452 : decode cL_law 452 = .ok (.istore_n 3, 1) := by decide +kernel
theorem dL_law_453 : decode cL_law 453 = .ok (.iload_n 3, 1) := by decide +kernel
theorem dL_law_454 : decode cL_law 454 = .ok (.iconst 3, 1) := by decide +kernel
theorem dL_law_455 : decode cL_law 455 = .ok (.if_icmp .ge 40, 3) := by decide +kernel
theorem dL_law_458 : decode cL_law 458 = .ok (.iload_n 2, 1) := by decide +kernel
theorem dL_law_459 : decode cL_law 459 = .ok (.ifCond .eq 36, 3) := by decide +kernel
theorem dL_law_462 : decode cL_law 462 = .ok (.aload_n 1, 1) := by decide +kernel
theorem dL_law_463 : decode cL_law 463 = .ok (.sipush 700, 3) := by decide +kernel
theorem dL_law_466 : decode cL_law 466 = .ok (.invokevirtual 32, 3) := by decide +kernel
theorem dL_law_469 : decode cL_law 469 = .ok (.ifCond .ge 14, 3) := by decide +kernel
theorem dL_law_472 : decode cL_law 472 = .ok (.aload_n 1, 1) := by decide +kernel
theorem dL_law_473 : decode cL_law 473 = .ok (.iconst 0, 1) := by decide +kernel
theorem dL_law_474 : decode cL_law 474 = .ok (.invokevirtual 15, 3) := by decide +kernel
theorem dL_law_477 : decode cL_law 477 = .ok (.sipush 4300, 3) := by decide +kernel
theorem dL_law_480 : decode cL_law 480 = .ok (.if_icmp .le 7, 3) := by decide +kernel
theorem dL_law_483 : decode cL_law 483 = .ok (.iconst 1, 1) := by decide +kernel
theorem dL_law_484 : decode cL_law 484 = .ok (.goto 4, 3) := by decide +kernel
theorem dL_law_487 : decode cL_law 487 = .ok (.iconst 0, 1) := by decide +kernel
theorem dL_law_488 : decode cL_law 488 = .ok (.istore_n 2, 1) := by decide +kernel
theorem dL_law_489 : decode cL_law 489 = .ok (.iinc 3 1, 3) := by decide +kernel
theorem dL_law_492 : decode cL_law 492 = .ok (.goto (-39), 3) := by decide +kernel
theorem dL_law_495 : decode cL_law 495 = .ok (.iload_n 2, 1) := by decide +kernel
theorem dL_law_496 : decode cL_law 496 = .ok (.ifCond .eq 42, 3) := by decide +kernel
theorem dL_law_499 : decode cL_law 499 = .ok (.aload_n 1, 1) := by decide +kernel
theorem dL_law_500 : decode cL_law 500 = .ok (.invokestatic 35, 3) := by decide +kernel
theorem dL_law_503 : decode cL_law 503 = .ok (.ifCond .eq 35, 3) := by decide +kernel
theorem dL_law_506 : decode cL_law 506 = .ok (.aload_n 1, 1) := by decide +kernel
theorem dL_law_507 : decode cL_law 507 = .ok (.iconst 0, 1) := by decide +kernel
theorem dL_law_508 : decode cL_law 508 = .ok (.invokevirtual 15, 3) := by decide +kernel
theorem dL_law_511 : decode cL_law 511 = .ok (.sipush 2100, 3) := by decide +kernel
theorem dL_law_514 : decode cL_law 514 = .ok (.if_icmp .lt 20, 3) := by decide +kernel
theorem dL_law_517 : decode cL_law 517 = .ok (.aload_n 1, 1) := by decide +kernel
theorem dL_law_518 : decode cL_law 518 = .ok (.iconst 1, 1) := by decide +kernel
theorem dL_law_519 : decode cL_law 519 = .ok (.invokevirtual 15, 3) := by decide +kernel
theorem dL_law_522 : decode cL_law 522 = .ok (.ifCond .gt 12, 3) := by decide +kernel
theorem dL_law_525 : decode cL_law 525 = .ok (.aload_n 1, 1) := by decide +kernel
theorem dL_law_526 : decode cL_law 526 = .ok (.bipush 13, 2) := by decide +kernel
theorem dL_law_528 : decode cL_law 528 = .ok (.invokevirtual 15, 3) := by decide +kernel
theorem dL_law_531 : decode cL_law 531 = .ok (.ifCond .ne 7, 3) := by decide +kernel
theorem dL_law_534 : decode cL_law 534 = .ok (.iconst 1, 1) := by decide +kernel
theorem dL_law_535 : decode cL_law 535 = .ok (.goto 4, 3) := by decide +kernel
theorem dL_law_538 : decode cL_law 538 = .ok (.iconst 0, 1) := by decide +kernel
theorem dL_law_539 : decode cL_law 539 = .ok (.istore_n 2, 1) := by decide +kernel
theorem dL_law_540 : decode cL_law 540 = .ok (.aload_n 1, 1) := by decide +kernel
theorem dL_law_541 : decode cL_law 541 = .ok (.invokevirtual 72, 3) := by decide +kernel
theorem dL_law_544 : decode cL_law 544 = .ok (.istore_n 3, 1) := by decide +kernel
theorem dL_law_545 : decode cL_law 545 = .ok (.iload_n 2, 1) := by decide +kernel
theorem dL_law_546 : decode cL_law 546 = .ok (.ifCond .eq 59, 3) := by decide +kernel
theorem dL_law_549 : decode cL_law 549 = .ok (.iload_n 3, 1) := by decide +kernel
theorem dL_law_550 : decode cL_law 550 = .ok (.bipush (-4), 2) := by decide +kernel
theorem dL_law_552 : decode cL_law 552 = .ok (.if_icmp .eq 49, 3) := by decide +kernel
theorem dL_law_555 : decode cL_law 555 = .ok (.aload_n 1, 1) := by decide +kernel
theorem dL_law_556 : decode cL_law 556 = .ok (.bipush 7, 2) := by decide +kernel
theorem dL_law_558 : decode cL_law 558 = .ok (.iload_n 3, 1) := by decide +kernel
theorem dL_law_559 : decode cL_law 559 = .ok (.invokevirtual 49, 3) := by decide +kernel
theorem dL_law_562 : decode cL_law 562 = .ok (.ifCond .le 43, 3) := by decide +kernel
theorem dL_law_565 : decode cL_law 565 = .ok (.aload_n 1, 1) := by decide +kernel
theorem dL_law_566 : decode cL_law 566 = .ok (.iconst 3, 1) := by decide +kernel
theorem dL_law_567 : decode cL_law 567 = .ok (.invokevirtual 15, 3) := by decide +kernel
theorem dL_law_570 : decode cL_law 570 = .ok (.iconst 1, 1) := by decide +kernel
theorem dL_law_571 : decode cL_law 571 = .ok (.if_icmp .ne 34, 3) := by decide +kernel
theorem dL_law_574 : decode cL_law 574 = .ok (.iload_n 3, 1) := by decide +kernel
theorem dL_law_575 : decode cL_law 575 = .ok (.iconst 1, 1) := by decide +kernel
theorem dL_law_576 : decode cL_law 576 = .ok (.if_icmp .eq 25, 3) := by decide +kernel
theorem dL_law_579 : decode cL_law 579 = .ok (.aload_n 1, 1) := by decide +kernel
theorem dL_law_580 : decode cL_law 580 = .ok (.bipush 7, 2) := by decide +kernel
theorem dL_law_582 : decode cL_law 582 = .ok (.iload_n 3, 1) := by decide +kernel
theorem dL_law_583 : decode cL_law 583 = .ok (.iconst 1, 1) := by decide +kernel
theorem dL_law_584 : decode cL_law 584 = .ok (.isub, 1) := by decide +kernel
theorem dL_law_585 : decode cL_law 585 = .ok (.invokevirtual 49, 3) := by decide +kernel
theorem dL_law_588 : decode cL_law 588 = .ok (.iload_n 3, 1) := by decide +kernel
theorem dL_law_589 : decode cL_law 589 = .ok (.if_icmp .ne 16, 3) := by decide +kernel
theorem dL_law_592 : decode cL_law 592 = .ok (.aload_n 1, 1) := by decide +kernel
theorem dL_law_593 : decode cL_law 593 = .ok (.iconst 3, 1) := by decide +kernel
theorem dL_law_594 : decode cL_law 594 = .ok (.invokevirtual 15, 3) := by decide +kernel
theorem dL_law_597 : decode cL_law 597 = .ok (.iconst 1, 1) := by decide +kernel
theorem dL_law_598 : decode cL_law 598 = .ok (.if_icmp .le 7, 3) := by decide +kernel
theorem dL_law_601 : decode cL_law 601 = .ok (.iconst 1, 1) := by decide +kernel
theorem dL_law_602 : decode cL_law 602 = .ok (.goto 4, 3) := by decide +kernel
theorem dL_law_605 : decode cL_law 605 = .ok (.iconst 0, 1) := by decide +kernel
theorem dL_law_606 : decode cL_law 606 = .ok (.istore_n 2, 1) := by decide +kernel
theorem dL_law_607 : decode cL_law 607 = .ok (.aload_n 1, 1) := by decide +kernel
theorem dL_law_608 : decode cL_law 608 = .ok (.bipush 11, 2) := by decide +kernel
end
section
theorem dL_law_610 : decode cL_law 610 = .ok (.invokevirtual 15, 3) := by decide +kernel
theorem dL_law_613 : decode cL_law 613 = .ok (.istore 4, 2) := by decide +kernel
theorem dL_law_615 : decode cL_law 615 = .ok (.iload_n 2, 1) := by decide +kernel
theorem dL_law_616 : decode cL_law 616 = .ok (.ifCond .eq 23, 3) := by decide +kernel
theorem dL_law_619 : decode cL_law 619 = .ok (.iload 4, 2) := by decide +kernel
theorem dL_law_621 : decode cL_law 621 = .ok (.ifCond .le 18, 3) := by decide +kernel
theorem dL_law_624 : decode cL_law 624 = .ok (.aload_n 1, 1) := by decide +kernel
theorem dL_law_625 : decode cL_law 625 = .ok (.invokevirtual 41, 3) := by decide +kernel
theorem dL_law_628 : decode cL_law 628 = .ok (.iload 4, 2) := by decide +kernel
theorem dL_law_630 : decode cL_law 630 = .ok (.iconst 1, 1) := by decide +kernel
theorem dL_law_631 : decode cL_law 631 = .ok (.isub, 1) := by decide +kernel
theorem dL_law_632 : decode cL_law 632 = .ok (.if_icmp .ne 7, 3) := by decide +kernel
theorem dL_law_635 : decode cL_law 635 = .ok (.iconst 1, 1) := by decide +kernel
theorem dL_law_636 : decode cL_law 636 = .ok (.goto 4, 3) := by decide +kernel
theorem dL_law_639 : decode cL_law 639 = .ok (.iconst 0, 1) := by decide +kernel
theorem dL_law_640 : decode cL_law 640 = .ok (.ireturn, 1) := by decide +kernel
end
section
/-! numbers: every int of the machine is iI of a whole number -/
def iI (z : Int) : Int32 := Int32.ofInt z
theorem iI_add (a b : Int) : iI a + iI b = iI (a + b) := (Int32.ofInt_add a b).symm
theorem iI_sub (a b : Int) : iI a - iI b = iI (a - b) := (Int32.ofInt_sub a b).symm
theorem iI_mul (a b : Int) : iI a * iI b = iI (a * b) := (Int32.ofInt_mul a b).symm
theorem iI_of (x : Int32) : x = iI x.toInt := (Int32.ofInt_toInt x).symm
theorem iI_rg (x : Int32) : -2147483648 ≤ x.toInt ∧ x.toInt < 2147483648 := ⟨by have := Int32.le_toInt x; simpa using this, by have := Int32.toInt_lt x; simpa using this⟩
theorem iI_toInt {a : Int} (h : -2147483648 ≤ a ∧ a < 2147483648) : (iI a).toInt = a := Int32.toInt_ofInt_of_le (by simpa using h.1) (by simpa using h.2)
theorem iI_lt {a b : Int} (ha : -2147483648 ≤ a ∧ a < 2147483648) (hb : -2147483648 ≤ b ∧ b < 2147483648) : iI a < iI b ↔ a < b := by
  rw [Int32.lt_iff_toInt_lt, iI_toInt ha, iI_toInt hb]
theorem iI_le {a b : Int} (ha : -2147483648 ≤ a ∧ a < 2147483648) (hb : -2147483648 ≤ b ∧ b < 2147483648) : iI a ≤ iI b ↔ a ≤ b := by
  rw [Int32.le_iff_toInt_le, iI_toInt ha, iI_toInt hb]
theorem iI_eq {a b : Int} (ha : -2147483648 ≤ a ∧ a < 2147483648) (hb : -2147483648 ≤ b ∧ b < 2147483648) : iI a = iI b ↔ a = b := by
  rw [← Int32.toInt_inj, iI_toInt ha, iI_toInt hb]
theorem iI_0 : (0 : Int32) = iI 0 := rfl
theorem iI_clamp {j : Nat} (h : (j : Int) < 2147483648) : (iI (j : Int)).toNatClampNeg = j := by
  show (iI (j : Int)).toInt.toNat = j
  rw [iI_toInt ⟨by omega, h⟩]
  rfl
theorem iI_in {i : Int} {j n : Nat} (hi : i = (j : Int)) (hj : j < n) (hn : (j : Int) < 2147483648) : vp_in (iI i) n ∧ (iI i).toNatClampNeg = j := by
  subst hi
  refine ⟨fun h => ?_, iI_clamp hn⟩
  rcases h with h | h
  · rw [iI_0, iI_lt ⟨by omega, hn⟩ ⟨by omega, by omega⟩] at h
    omega
  · rw [iI_clamp hn] at h
    omega
/-! the world: what lies at the places behind the law's first free address -/
abbrev Wd : Type := Nat → Option va_E
abbrev Gc : Type := va_G × (Nat → ClassId) × Nat × (Nat → Nat)
abbrev gD (G : Gc) : va_G := G.1
abbrev gK (G : Gc) : Nat → ClassId := G.2.1
abbrev gb (G : Gc) : Nat := G.2.2.1
abbrev gT (G : Gc) : Nat → Nat := G.2.2.2
def gtys (G : Gc) : List (ClassId × FieldType) := [(gK G 0, .int), (gK G 1, .char), (gK G 2, .boolean), (gK G 3, .object RX9)]
def gO (G : Gc) : Nat → Prop := fun q => gb G ≤ q
def wdH (G : Gc) (E : Wd) (H : Heap) : Prop := ∀ (k : Nat) (x : va_E), E k = some x → va_at (gD G) vwCl (gb G + k, x) H
abbrev AI (G : Gc) (n : Nat) (g : Nat → Int) : va_E := .inl (gK G 0, n, .inl (fun j => iI (g j)))
abbrev AC (G : Gc) (n : Nat) (g : Nat → Int) : va_E := .inl (gK G 1, n, .inl (fun j => iI (g j)))
abbrev AZ (G : Gc) (n : Nat) (g : Nat → Int) : va_E := .inl (gK G 2, n, .inl (fun j => iI (g j)))
abbrev AS (G : Gc) (n : Nat) (g : Nat → Option Nat) : va_E := .inl (gK G 3, n, .inr (.inr (.inr (.inr (fun j => (g j).map (fun o => gb G + o))))))
/-! the static tables -/
def tbN : Nat → String
  | 0 => "LEAST_VALUES"
  | 1 => "GREATEST_VALUES"
  | _ => "FIRST_VALUES"
def tbV (i j : Nat) : Int := (([[20, 0, 0, 0, 0, 10, 1, 1], [500, 20, 200, 50, 50, 1000, 2000, 1000], [100, 2, 10, 1, 0, 360, 500, 60]] : List (List Int)).getD i []).getD j 0
def Zf (G : Gc) (U : State) (H : Heap) : Prop := ∀ i, i < 3 → va_Z RX11 (tbN i) "[I" (.ref (gT G i)) (gO G) U H ∧ va_T .int (gT G i) 8 (fun j => .int (iI (tbV i j))) (gO G) U H
def KZ (G : Gc) (U : State) (H : Heap) : Prop := va_K (gD G) vwCl (gtys G) U ∧ Zf G U H ∧ (∀ w ∈ TN, va_Nw w U) ∧ va_AO RX9 U
theorem TN_warm {s U : State} (hW : s.WarmedH U.vm) (h : ∀ w ∈ TN, va_Nw w s) : ∀ w ∈ TN, va_Nw w U := by
  intro w hw
  have h1 := h w hw
  have h2 := (List.mem_filter.mp hw).2
  cases w <;> first | exact va_Nw.warmM hW h1 | exact va_Nw.warmF hW h1 | cases h2
theorem TN_same {u U : State} (hv : u.vm = U.vm) (h : ∀ w ∈ TN, va_Nw w u) : ∀ w ∈ TN, va_Nw w U := by
  intro w hw
  have h1 := h w hw
  have h2 := (List.mem_filter.mp hw).2
  cases w <;> first | exact va_Nw.same rfl hv h1 | cases h2
theorem KZ.move {G : Gc} {s U : State} {H H1 : Heap} (hW : s.WarmedH U.vm) (hh : ∀ a : Nat, a < H.size → ¬ gO G a → H1[a]? = H[a]?) (h : KZ G s H) : KZ G U H1 :=
  ⟨va_K.moved hW.alike h.1, fun i hi => ⟨(va_Z.moved hW.alike (h.2.1 i hi).1).kept hh, (va_T.moved hW.alike (h.2.1 i hi).2).kept hh⟩, TN_warm hW h.2.2.1, va_AO.moved hW.alike h.2.2.2⟩
theorem KZ.calling {G : Gc} {U : State} {H : Heap} {g : JFrame} {mk : MethodId} {a : Array Value} (h : KZ G U H) : KZ G (U.calling g mk a) H :=
  ⟨va_K.moved (u := U) (U := U.calling g mk a) (Vm.Alike.refl U.vm) h.1, fun i hi => ⟨va_Z.moved (u := U) (U := U.calling g mk a) (Vm.Alike.refl U.vm) (h.2.1 i hi).1, va_T.moved (u := U) (U := U.calling g mk a) (Vm.Alike.refl U.vm) (h.2.1 i hi).2⟩, TN_same (u := U) (U := U.calling g mk a) rfl h.2.2.1, va_AO.moved (u := U) (U := U.calling g mk a) (Vm.Alike.refl U.vm) h.2.2.2⟩
/-! the locals: a place each, what stands there where it is known -/
def al (ls : List (Option Value)) : List (Nat × Value) := (List.range ls.length).filterMap (fun i => (ls.getD i none).map (fun v => (i, v)))
theorem al_mem {ls : List (Option Value)} {q : Nat × Value} : q ∈ al ls ↔ ls[q.1]? = some (some q.2) := by
  unfold al
  rw [List.mem_filterMap]
  constructor
  · rintro ⟨i, hi, h⟩
    rw [Option.map_eq_some_iff] at h
    obtain ⟨v, hv, rfl⟩ := h
    have hl := List.mem_range.mp hi
    rw [List.getD_eq_getElem?_getD] at hv
    rw [List.getElem?_eq_getElem hl] at hv ⊢
    simpa using hv
  · intro h
    have hl : q.1 < ls.length := (List.getElem?_eq_some_iff.mp h).1
    refine ⟨q.1, List.mem_range.mpr hl, ?_⟩
    rw [List.getD_eq_getElem?_getD, h]
    rfl
def lsH (L : Array Slot) (ls : List (Option Value)) : Prop := lv_has L ls.length (al ls)
def c1 : Option Value → Bool
  | some (.long _) => false
  | some (.double _) => false
  | _ => true
theorem lsH.get {L : Array Slot} {ls : List (Option Value)} {i : Nat} {v : Value} (h : lsH L ls) (hi : ls[i]? = some (some v)) : L[i]? = some (.val v) := h.2.2 (i, v) (al_mem.mpr hi)
def SetA (i : Nat) (v : Value) (ls ls' : List (Option Value)) : Prop := i < ls.length ∧ ls' = ls.set i (some v) ∧ ∀ j w, j + 1 = i → ls[j]? = some (some w) → ¬ w.category = 2
theorem lsH.set {L' : Array Slot} {ls ls' : List (Option Value)} {i : Nat} {v : Value} (hs : SetA i v ls ls') (h : lv_has L' ls.length ((i, v) :: (al ls).filter (fun q => !(q.1 == i) && !(q.1 + 1 == i && q.2.category == 2)))) : lsH L' ls' := by
  obtain ⟨h1, rfl, h2⟩ := hs
  refine ⟨by rw [List.length_set]; exact h.1, h.2.1, fun q hq => ?_⟩
  rw [al_mem] at hq
  by_cases he : q.1 = i
  · have e : q.2 = v := by
      rw [he, List.getElem?_set_self h1] at hq
      exact (Option.some.inj (Option.some.inj hq)).symm
    have := h.2.2 (i, v) List.mem_cons_self
    rw [he, e]; exact this
  · rw [List.getElem?_set_ne (Ne.symm he)] at hq
    refine h.2.2 q (List.mem_cons_of_mem _ (List.mem_filter.mpr ⟨al_mem.mpr hq, ?_⟩))
    have e2 : (q.1 + 1 == i && q.2.category == 2) = false := by
      by_cases h3 : q.1 + 1 = i
      · have := h2 q.1 q.2 h3 hq
        simp [this]
      · simp [h3]
    simp [he, e2]
def SetL (i : Nat) (v : Value) (ls ls' : List (Option Value)) : Prop := i + 1 < ls.length ∧ ls' = (ls.set i (some v)).set (i + 1) none ∧ ∀ j w, j + 1 = i → ls[j]? = some (some w) → ¬ w.category = 2
theorem lsH.setL {L' : Array Slot} {ls ls' : List (Option Value)} {i : Nat} {v : Value} (hs : SetL i v ls ls') (h : lv_has L' ls.length ((i, v) :: (al ls).filter (fun q => !(q.1 == i) && (!(q.1 == i + 1) && !(q.1 + 1 == i && q.2.category == 2))))) : lsH L' ls' := by
  obtain ⟨h1, rfl, h2⟩ := hs
  refine ⟨by rw [List.length_set, List.length_set]; exact h.1, h.2.1, fun q hq => ?_⟩
  rw [al_mem] at hq
  by_cases he1 : q.1 = i + 1
  · rw [he1, List.getElem?_set_self (by rw [List.length_set]; exact h1)] at hq
    cases hq
  · rw [List.getElem?_set_ne (Ne.symm he1)] at hq
    by_cases he : q.1 = i
    · have e : q.2 = v := by
        rw [he, List.getElem?_set_self (by omega)] at hq
        exact (Option.some.inj (Option.some.inj hq)).symm
      have := h.2.2 (i, v) List.mem_cons_self
      rw [he, e]; exact this
    · rw [List.getElem?_set_ne (Ne.symm he)] at hq
      refine h.2.2 q (List.mem_cons_of_mem _ (List.mem_filter.mpr ⟨al_mem.mpr hq, ?_⟩))
      have e2 : (q.1 + 1 == i && q.2.category == 2) = false := by
        by_cases h3 : q.1 + 1 = i
        · have := h2 q.1 q.2 h3 hq
          simp [this]
        · simp [h3]
      simp [he, he1, e2]
theorem c1_cat {w : Value} (h : c1 (some w) = true) : ¬ w.category = 2 := by
  cases w <;> simp_all [c1, Value.category]
theorem SetA.mk0 {v : Value} {a : Option Value} {l : List (Option Value)} : SetA 0 v (a :: l) (some v :: l) := ⟨by simp, rfl, fun j w h => by omega⟩
theorem SetA.mk {pre l : List (Option Value)} {a b : Option Value} {v : Value} {i : Nat} (hi : pre.length + 1 = i) (h : c1 a = true) : SetA i v (pre ++ a :: b :: l) (pre ++ a :: some v :: l) := by
  subst hi
  refine ⟨by simp, ?_, fun j w hj h9 => ?_⟩
  · simp [List.set_append]
  · have : j = pre.length := by omega
    subst this
    rw [List.getElem?_append_right (Nat.le_refl _)] at h9
    simp at h9
    subst h9
    exact c1_cat h
theorem set_pre {α : Type} (pre m : List α) (k : Nat) (x : α) : (pre ++ m).set (pre.length + k) x = pre ++ m.set k x := by
  induction pre with
  | nil => simp
  | cons a p ih =>
    rw [List.length_cons, show p.length + 1 + k = (p.length + k) + 1 by omega]
    simp only [List.cons_append, List.set_cons_succ, ih]
theorem SetL.mk {pre l : List (Option Value)} {a b d : Option Value} {v : Value} {i : Nat} (hi : pre.length + 1 = i) (h : c1 a = true) : SetL i v (pre ++ a :: b :: d :: l) (pre ++ a :: some v :: none :: l) := by
  subst hi
  refine ⟨by simp; omega, ?_, fun j w hj h9 => ?_⟩
  · rw [set_pre, show pre.length + 1 + 1 = pre.length + 2 from rfl, set_pre]
    rfl
  · have : j = pre.length := by omega
    subst this
    rw [List.getElem?_append_right (Nat.le_refl _)] at h9
    simp at h9
    subst h9
    exact c1_cat h
/-! the judgement: from this place of a method, with this world, these locals and this stack, the machine comes to its goal -/
abbrev Fx : Type := Program × Launch × Env × Room × State × MethodId × Array Value × List Frame × Method × Code × Gc × (State → Prop)
abbrev fP (X : Fx) : Program := X.1
abbrev fL (X : Fx) : Launch := X.2.1
abbrev fE (X : Fx) : Env := X.2.2.1
abbrev fR (X : Fx) : Room := X.2.2.2.1
abbrev fS (X : Fx) : State := X.2.2.2.2.1
abbrev fM (X : Fx) : MethodId := X.2.2.2.2.2.1
abbrev fA (X : Fx) : Array Value := X.2.2.2.2.2.2.1
abbrev fB (X : Fx) : List Frame := X.2.2.2.2.2.2.2.1
abbrev fMe (X : Fx) : Method := X.2.2.2.2.2.2.2.2.1
abbrev fC (X : Fx) : Code := X.2.2.2.2.2.2.2.2.2.1
abbrev fG (X : Fx) : Gc := X.2.2.2.2.2.2.2.2.2.2.1
abbrev fQ (X : Fx) : State → Prop := X.2.2.2.2.2.2.2.2.2.2.2
abbrev WX (X : Fx) (H : Heap) (locs : List Loc) (z : Nat × Nat × Nat) (pc : Nat) (L : Array Slot) (st : List Value) : Prop := W (fP X) (fL X) (fE X) (fR X) (fS X) (fM X) (fA X) (fB X) (fMe X) (fC X) H locs z.2.1 z.2.2 (fQ X) (F0 (fM X) pc L st)
def Rd (X : Fx) (E : Wd) (z : Nat × Nat × Nat) (ls : List (Option Value)) (H : Heap) (locs : List Loc) (L : Array Slot) : Prop :=
  wdH (fG X) E H ∧ H.size = gb (fG X) + z.1 ∧ va_S (gO (fG X)) (fS X).heap H locs ∧ lsH L ls ∧ ls.length = (fC X).maxLocals
def V (X : Fx) (E : Wd) (z : Nat × Nat × Nat) (pc : Nat) (ls : List (Option Value)) (st : List Value) : Prop :=
  ∀ (H : Heap) (locs : List Loc) (L : Array Slot), Rd X E z ls H locs L → WX X H locs z pc L st
def Cx (X : Fx) (cc : ByteArray) (ow : String) : Prop :=
  (fP X).tables.exec = Jvm.exec ∧ (fC X).code = cc ∧ (fS X).vm.findClass ow = some (fM X).cls ∧ (∀ w ∈ TB, w.before (fA X) (fS X) = true) ∧ KZ (fG X) (fS X) (fS X).heap ∧ gb (fG X) ≤ (fS X).heap.size
/-- a step that touches neither the heap nor the locals -/
theorem V.st {X : Fx} {E : Wd} {z : Nat × Nat × Nat} {pc pc' : Nat} {ls : List (Option Value)} {st st' : List Value} (h : ∀ (H : Heap) (locs : List Loc) (L : Array Slot), lsH L ls → WX X H locs z pc' L st' → WX X H locs z pc L st) (k : V X E z pc' ls st') : V X E z pc ls st :=
  fun H locs L h1 => h H locs L h1.2.2.2.1 (k H locs L h1)
/-- a step that stores a local -/
theorem V.lo {X : Fx} {E : Wd} {z : Nat × Nat × Nat} {pc pc' : Nat} {ls ls' : List (Option Value)} {st st' : List Value} (hl : ls'.length = ls.length) (h : ∀ (H : Heap) (locs : List Loc) (L : Array Slot), lsH L ls → (∀ L', lsH L' ls' → WX X H locs z pc' L' st') → WX X H locs z pc L st) (k : V X E z pc' ls' st') : V X E z pc ls st :=
  fun H locs L h1 => h H locs L h1.2.2.2.1 (fun L' hL' => k H locs L' ⟨h1.1, h1.2.1, h1.2.2.1, hL', hl.trans h1.2.2.2.2⟩)
end
section
theorem iI_char {a : Int} (h : 0 ≤ a ∧ a < 65536) : ((iI a).toUInt32 % 65536).toInt32 = iI a := by
  obtain ⟨n, rfl⟩ := Int.eq_ofNat_of_zero_le h.1
  have e : iI (n : Int) = nI n := by
    unfold iI nI
    exact (Int32.ofInt_eq_ofNat (n := n))
  rw [e]
  have h2 : n < 65536 := by omega
  have := pk_char (nI n)
  rw [this, pk_tn (by omega), Nat.mod_eq_of_lt h2]
section Rows
variable {X : Fx} {E : Wd} {z : Nat × Nat × Nat} {pc : Nat} {ls ls' : List (Option Value)} {st : List Value} {cc : ByteArray} {ow : String}
theorem ga0 {v : Value} {l : List (Option Value)} : (some v :: l)[0]? = some (some v) := rfl
theorem gf0 {v : Value} {l : List Value} : (v :: l)[0]? = some v := rfl
theorem sa0 {v : Value} {a : Option Value} {l : List (Option Value)} : SetA 0 v (a :: l) (some v :: l) := SetA.mk0
theorem ga1 {x0 : Option Value} {v : Value} {l : List (Option Value)} : (x0 :: some v :: l)[1]? = some (some v) := rfl
theorem gf1 {x0 v : Value} {l : List Value} : (x0 :: v :: l)[1]? = some v := rfl
theorem sa1 {x0 b : Option Value} {v : Value} {l : List (Option Value)} (h : c1 x0 = true) : SetA 1 v (x0 :: b :: l) (x0 :: some v :: l) := SetA.mk (pre := []) rfl h
theorem sl1 {x0 b d : Option Value} {v : Value} {l : List (Option Value)} (h : c1 x0 = true) : SetL 1 v (x0 :: b :: d :: l) (x0 :: some v :: none :: l) := SetL.mk (pre := []) rfl h
theorem ga2 {x0 x1 : Option Value} {v : Value} {l : List (Option Value)} : (x0 :: x1 :: some v :: l)[2]? = some (some v) := rfl
theorem gf2 {x0 x1 v : Value} {l : List Value} : (x0 :: x1 :: v :: l)[2]? = some v := rfl
theorem sa2 {x0 x1 b : Option Value} {v : Value} {l : List (Option Value)} (h : c1 x1 = true) : SetA 2 v (x0 :: x1 :: b :: l) (x0 :: x1 :: some v :: l) := SetA.mk (pre := [x0]) rfl h
theorem sl2 {x0 x1 b d : Option Value} {v : Value} {l : List (Option Value)} (h : c1 x1 = true) : SetL 2 v (x0 :: x1 :: b :: d :: l) (x0 :: x1 :: some v :: none :: l) := SetL.mk (pre := [x0]) rfl h
theorem ga3 {x0 x1 x2 : Option Value} {v : Value} {l : List (Option Value)} : (x0 :: x1 :: x2 :: some v :: l)[3]? = some (some v) := rfl
theorem gf3 {x0 x1 x2 v : Value} {l : List Value} : (x0 :: x1 :: x2 :: v :: l)[3]? = some v := rfl
theorem sa3 {x0 x1 x2 b : Option Value} {v : Value} {l : List (Option Value)} (h : c1 x2 = true) : SetA 3 v (x0 :: x1 :: x2 :: b :: l) (x0 :: x1 :: x2 :: some v :: l) := SetA.mk (pre := [x0, x1]) rfl h
theorem sl3 {x0 x1 x2 b d : Option Value} {v : Value} {l : List (Option Value)} (h : c1 x2 = true) : SetL 3 v (x0 :: x1 :: x2 :: b :: d :: l) (x0 :: x1 :: x2 :: some v :: none :: l) := SetL.mk (pre := [x0, x1]) rfl h
theorem ga4 {x0 x1 x2 x3 : Option Value} {v : Value} {l : List (Option Value)} : (x0 :: x1 :: x2 :: x3 :: some v :: l)[4]? = some (some v) := rfl
theorem gf4 {x0 x1 x2 x3 v : Value} {l : List Value} : (x0 :: x1 :: x2 :: x3 :: v :: l)[4]? = some v := rfl
theorem sa4 {x0 x1 x2 x3 b : Option Value} {v : Value} {l : List (Option Value)} (h : c1 x3 = true) : SetA 4 v (x0 :: x1 :: x2 :: x3 :: b :: l) (x0 :: x1 :: x2 :: x3 :: some v :: l) := SetA.mk (pre := [x0, x1, x2]) rfl h
theorem sl4 {x0 x1 x2 x3 b d : Option Value} {v : Value} {l : List (Option Value)} (h : c1 x3 = true) : SetL 4 v (x0 :: x1 :: x2 :: x3 :: b :: d :: l) (x0 :: x1 :: x2 :: x3 :: some v :: none :: l) := SetL.mk (pre := [x0, x1, x2]) rfl h
theorem ga5 {x0 x1 x2 x3 x4 : Option Value} {v : Value} {l : List (Option Value)} : (x0 :: x1 :: x2 :: x3 :: x4 :: some v :: l)[5]? = some (some v) := rfl
theorem gf5 {x0 x1 x2 x3 x4 v : Value} {l : List Value} : (x0 :: x1 :: x2 :: x3 :: x4 :: v :: l)[5]? = some v := rfl
theorem sa5 {x0 x1 x2 x3 x4 b : Option Value} {v : Value} {l : List (Option Value)} (h : c1 x4 = true) : SetA 5 v (x0 :: x1 :: x2 :: x3 :: x4 :: b :: l) (x0 :: x1 :: x2 :: x3 :: x4 :: some v :: l) := SetA.mk (pre := [x0, x1, x2, x3]) rfl h
theorem sl5 {x0 x1 x2 x3 x4 b d : Option Value} {v : Value} {l : List (Option Value)} (h : c1 x4 = true) : SetL 5 v (x0 :: x1 :: x2 :: x3 :: x4 :: b :: d :: l) (x0 :: x1 :: x2 :: x3 :: x4 :: some v :: none :: l) := SetL.mk (pre := [x0, x1, x2, x3]) rfl h
theorem ga6 {x0 x1 x2 x3 x4 x5 : Option Value} {v : Value} {l : List (Option Value)} : (x0 :: x1 :: x2 :: x3 :: x4 :: x5 :: some v :: l)[6]? = some (some v) := rfl
theorem gf6 {x0 x1 x2 x3 x4 x5 v : Value} {l : List Value} : (x0 :: x1 :: x2 :: x3 :: x4 :: x5 :: v :: l)[6]? = some v := rfl
theorem sa6 {x0 x1 x2 x3 x4 x5 b : Option Value} {v : Value} {l : List (Option Value)} (h : c1 x5 = true) : SetA 6 v (x0 :: x1 :: x2 :: x3 :: x4 :: x5 :: b :: l) (x0 :: x1 :: x2 :: x3 :: x4 :: x5 :: some v :: l) := SetA.mk (pre := [x0, x1, x2, x3, x4]) rfl h
theorem sl6 {x0 x1 x2 x3 x4 x5 b d : Option Value} {v : Value} {l : List (Option Value)} (h : c1 x5 = true) : SetL 6 v (x0 :: x1 :: x2 :: x3 :: x4 :: x5 :: b :: d :: l) (x0 :: x1 :: x2 :: x3 :: x4 :: x5 :: some v :: none :: l) := SetL.mk (pre := [x0, x1, x2, x3, x4]) rfl h
theorem ga7 {x0 x1 x2 x3 x4 x5 x6 : Option Value} {v : Value} {l : List (Option Value)} : (x0 :: x1 :: x2 :: x3 :: x4 :: x5 :: x6 :: some v :: l)[7]? = some (some v) := rfl
theorem gf7 {x0 x1 x2 x3 x4 x5 x6 v : Value} {l : List Value} : (x0 :: x1 :: x2 :: x3 :: x4 :: x5 :: x6 :: v :: l)[7]? = some v := rfl
theorem sa7 {x0 x1 x2 x3 x4 x5 x6 b : Option Value} {v : Value} {l : List (Option Value)} (h : c1 x6 = true) : SetA 7 v (x0 :: x1 :: x2 :: x3 :: x4 :: x5 :: x6 :: b :: l) (x0 :: x1 :: x2 :: x3 :: x4 :: x5 :: x6 :: some v :: l) := SetA.mk (pre := [x0, x1, x2, x3, x4, x5]) rfl h
theorem sl7 {x0 x1 x2 x3 x4 x5 x6 b d : Option Value} {v : Value} {l : List (Option Value)} (h : c1 x6 = true) : SetL 7 v (x0 :: x1 :: x2 :: x3 :: x4 :: x5 :: x6 :: b :: d :: l) (x0 :: x1 :: x2 :: x3 :: x4 :: x5 :: x6 :: some v :: none :: l) := SetL.mk (pre := [x0, x1, x2, x3, x4, x5]) rfl h
theorem ga8 {x0 x1 x2 x3 x4 x5 x6 x7 : Option Value} {v : Value} {l : List (Option Value)} : (x0 :: x1 :: x2 :: x3 :: x4 :: x5 :: x6 :: x7 :: some v :: l)[8]? = some (some v) := rfl
theorem gf8 {x0 x1 x2 x3 x4 x5 x6 x7 v : Value} {l : List Value} : (x0 :: x1 :: x2 :: x3 :: x4 :: x5 :: x6 :: x7 :: v :: l)[8]? = some v := rfl
theorem sa8 {x0 x1 x2 x3 x4 x5 x6 x7 b : Option Value} {v : Value} {l : List (Option Value)} (h : c1 x7 = true) : SetA 8 v (x0 :: x1 :: x2 :: x3 :: x4 :: x5 :: x6 :: x7 :: b :: l) (x0 :: x1 :: x2 :: x3 :: x4 :: x5 :: x6 :: x7 :: some v :: l) := SetA.mk (pre := [x0, x1, x2, x3, x4, x5, x6]) rfl h
theorem sl8 {x0 x1 x2 x3 x4 x5 x6 x7 b d : Option Value} {v : Value} {l : List (Option Value)} (h : c1 x7 = true) : SetL 8 v (x0 :: x1 :: x2 :: x3 :: x4 :: x5 :: x6 :: x7 :: b :: d :: l) (x0 :: x1 :: x2 :: x3 :: x4 :: x5 :: x6 :: x7 :: some v :: none :: l) := SetL.mk (pre := [x0, x1, x2, x3, x4, x5, x6]) rfl h
theorem ga9 {x0 x1 x2 x3 x4 x5 x6 x7 x8 : Option Value} {v : Value} {l : List (Option Value)} : (x0 :: x1 :: x2 :: x3 :: x4 :: x5 :: x6 :: x7 :: x8 :: some v :: l)[9]? = some (some v) := rfl
theorem gf9 {x0 x1 x2 x3 x4 x5 x6 x7 x8 v : Value} {l : List Value} : (x0 :: x1 :: x2 :: x3 :: x4 :: x5 :: x6 :: x7 :: x8 :: v :: l)[9]? = some v := rfl
theorem sa9 {x0 x1 x2 x3 x4 x5 x6 x7 x8 b : Option Value} {v : Value} {l : List (Option Value)} (h : c1 x8 = true) : SetA 9 v (x0 :: x1 :: x2 :: x3 :: x4 :: x5 :: x6 :: x7 :: x8 :: b :: l) (x0 :: x1 :: x2 :: x3 :: x4 :: x5 :: x6 :: x7 :: x8 :: some v :: l) := SetA.mk (pre := [x0, x1, x2, x3, x4, x5, x6, x7]) rfl h
theorem sl9 {x0 x1 x2 x3 x4 x5 x6 x7 x8 b d : Option Value} {v : Value} {l : List (Option Value)} (h : c1 x8 = true) : SetL 9 v (x0 :: x1 :: x2 :: x3 :: x4 :: x5 :: x6 :: x7 :: x8 :: b :: d :: l) (x0 :: x1 :: x2 :: x3 :: x4 :: x5 :: x6 :: x7 :: x8 :: some v :: none :: l) := SetL.mk (pre := [x0, x1, x2, x3, x4, x5, x6, x7]) rfl h
theorem ga10 {x0 x1 x2 x3 x4 x5 x6 x7 x8 x9 : Option Value} {v : Value} {l : List (Option Value)} : (x0 :: x1 :: x2 :: x3 :: x4 :: x5 :: x6 :: x7 :: x8 :: x9 :: some v :: l)[10]? = some (some v) := rfl
theorem gf10 {x0 x1 x2 x3 x4 x5 x6 x7 x8 x9 v : Value} {l : List Value} : (x0 :: x1 :: x2 :: x3 :: x4 :: x5 :: x6 :: x7 :: x8 :: x9 :: v :: l)[10]? = some v := rfl
theorem sa10 {x0 x1 x2 x3 x4 x5 x6 x7 x8 x9 b : Option Value} {v : Value} {l : List (Option Value)} (h : c1 x9 = true) : SetA 10 v (x0 :: x1 :: x2 :: x3 :: x4 :: x5 :: x6 :: x7 :: x8 :: x9 :: b :: l) (x0 :: x1 :: x2 :: x3 :: x4 :: x5 :: x6 :: x7 :: x8 :: x9 :: some v :: l) := SetA.mk (pre := [x0, x1, x2, x3, x4, x5, x6, x7, x8]) rfl h
theorem sl10 {x0 x1 x2 x3 x4 x5 x6 x7 x8 x9 b d : Option Value} {v : Value} {l : List (Option Value)} (h : c1 x9 = true) : SetL 10 v (x0 :: x1 :: x2 :: x3 :: x4 :: x5 :: x6 :: x7 :: x8 :: x9 :: b :: d :: l) (x0 :: x1 :: x2 :: x3 :: x4 :: x5 :: x6 :: x7 :: x8 :: x9 :: some v :: none :: l) := SetL.mk (pre := [x0, x1, x2, x3, x4, x5, x6, x7, x8]) rfl h
theorem ga11 {x0 x1 x2 x3 x4 x5 x6 x7 x8 x9 x10 : Option Value} {v : Value} {l : List (Option Value)} : (x0 :: x1 :: x2 :: x3 :: x4 :: x5 :: x6 :: x7 :: x8 :: x9 :: x10 :: some v :: l)[11]? = some (some v) := rfl
theorem gf11 {x0 x1 x2 x3 x4 x5 x6 x7 x8 x9 x10 v : Value} {l : List Value} : (x0 :: x1 :: x2 :: x3 :: x4 :: x5 :: x6 :: x7 :: x8 :: x9 :: x10 :: v :: l)[11]? = some v := rfl
theorem sa11 {x0 x1 x2 x3 x4 x5 x6 x7 x8 x9 x10 b : Option Value} {v : Value} {l : List (Option Value)} (h : c1 x10 = true) : SetA 11 v (x0 :: x1 :: x2 :: x3 :: x4 :: x5 :: x6 :: x7 :: x8 :: x9 :: x10 :: b :: l) (x0 :: x1 :: x2 :: x3 :: x4 :: x5 :: x6 :: x7 :: x8 :: x9 :: x10 :: some v :: l) := SetA.mk (pre := [x0, x1, x2, x3, x4, x5, x6, x7, x8, x9]) rfl h
theorem sl11 {x0 x1 x2 x3 x4 x5 x6 x7 x8 x9 x10 b d : Option Value} {v : Value} {l : List (Option Value)} (h : c1 x10 = true) : SetL 11 v (x0 :: x1 :: x2 :: x3 :: x4 :: x5 :: x6 :: x7 :: x8 :: x9 :: x10 :: b :: d :: l) (x0 :: x1 :: x2 :: x3 :: x4 :: x5 :: x6 :: x7 :: x8 :: x9 :: x10 :: some v :: none :: l) := SetL.mk (pre := [x0, x1, x2, x3, x4, x5, x6, x7, x8, x9]) rfl h
theorem ga12 {x0 x1 x2 x3 x4 x5 x6 x7 x8 x9 x10 x11 : Option Value} {v : Value} {l : List (Option Value)} : (x0 :: x1 :: x2 :: x3 :: x4 :: x5 :: x6 :: x7 :: x8 :: x9 :: x10 :: x11 :: some v :: l)[12]? = some (some v) := rfl
theorem gf12 {x0 x1 x2 x3 x4 x5 x6 x7 x8 x9 x10 x11 v : Value} {l : List Value} : (x0 :: x1 :: x2 :: x3 :: x4 :: x5 :: x6 :: x7 :: x8 :: x9 :: x10 :: x11 :: v :: l)[12]? = some v := rfl
theorem sa12 {x0 x1 x2 x3 x4 x5 x6 x7 x8 x9 x10 x11 b : Option Value} {v : Value} {l : List (Option Value)} (h : c1 x11 = true) : SetA 12 v (x0 :: x1 :: x2 :: x3 :: x4 :: x5 :: x6 :: x7 :: x8 :: x9 :: x10 :: x11 :: b :: l) (x0 :: x1 :: x2 :: x3 :: x4 :: x5 :: x6 :: x7 :: x8 :: x9 :: x10 :: x11 :: some v :: l) := SetA.mk (pre := [x0, x1, x2, x3, x4, x5, x6, x7, x8, x9, x10]) rfl h
theorem sl12 {x0 x1 x2 x3 x4 x5 x6 x7 x8 x9 x10 x11 b d : Option Value} {v : Value} {l : List (Option Value)} (h : c1 x11 = true) : SetL 12 v (x0 :: x1 :: x2 :: x3 :: x4 :: x5 :: x6 :: x7 :: x8 :: x9 :: x10 :: x11 :: b :: d :: l) (x0 :: x1 :: x2 :: x3 :: x4 :: x5 :: x6 :: x7 :: x8 :: x9 :: x10 :: x11 :: some v :: none :: l) := SetL.mk (pre := [x0, x1, x2, x3, x4, x5, x6, x7, x8, x9, x10]) rfl h
theorem ga13 {x0 x1 x2 x3 x4 x5 x6 x7 x8 x9 x10 x11 x12 : Option Value} {v : Value} {l : List (Option Value)} : (x0 :: x1 :: x2 :: x3 :: x4 :: x5 :: x6 :: x7 :: x8 :: x9 :: x10 :: x11 :: x12 :: some v :: l)[13]? = some (some v) := rfl
theorem gf13 {x0 x1 x2 x3 x4 x5 x6 x7 x8 x9 x10 x11 x12 v : Value} {l : List Value} : (x0 :: x1 :: x2 :: x3 :: x4 :: x5 :: x6 :: x7 :: x8 :: x9 :: x10 :: x11 :: x12 :: v :: l)[13]? = some v := rfl
theorem sa13 {x0 x1 x2 x3 x4 x5 x6 x7 x8 x9 x10 x11 x12 b : Option Value} {v : Value} {l : List (Option Value)} (h : c1 x12 = true) : SetA 13 v (x0 :: x1 :: x2 :: x3 :: x4 :: x5 :: x6 :: x7 :: x8 :: x9 :: x10 :: x11 :: x12 :: b :: l) (x0 :: x1 :: x2 :: x3 :: x4 :: x5 :: x6 :: x7 :: x8 :: x9 :: x10 :: x11 :: x12 :: some v :: l) := SetA.mk (pre := [x0, x1, x2, x3, x4, x5, x6, x7, x8, x9, x10, x11]) rfl h
theorem sl13 {x0 x1 x2 x3 x4 x5 x6 x7 x8 x9 x10 x11 x12 b d : Option Value} {v : Value} {l : List (Option Value)} (h : c1 x12 = true) : SetL 13 v (x0 :: x1 :: x2 :: x3 :: x4 :: x5 :: x6 :: x7 :: x8 :: x9 :: x10 :: x11 :: x12 :: b :: d :: l) (x0 :: x1 :: x2 :: x3 :: x4 :: x5 :: x6 :: x7 :: x8 :: x9 :: x10 :: x11 :: x12 :: some v :: none :: l) := SetL.mk (pre := [x0, x1, x2, x3, x4, x5, x6, x7, x8, x9, x10, x11]) rfl h
theorem v_iconst (cx : Cx X cc ow) {n : Int} (hd : decode cc pc = .ok (.iconst n, 1)) (k : V X E z (pc + 1) ls (.int (iI n) :: st)) : V X E z pc ls st := k.st (fun H locs L hl k => lv_iconst cx.1 cx.2.1 hd rfl k)
theorem v_bipush (cx : Cx X cc ow) {n : Int} (hn : (Int8.ofInt n).toInt32 = Int32.ofInt n) (hd : decode cc pc = .ok (.bipush n, 2)) (k : V X E z (pc + 2) ls (.int (iI n) :: st)) : V X E z pc ls st := k.st (fun H locs L hl k => lv_bipush cx.1 cx.2.1 hd hn k)
theorem v_sipush (cx : Cx X cc ow) {n : Int} (hn : (Int16.ofInt n).toInt32 = Int32.ofInt n) (hd : decode cc pc = .ok (.sipush n, 3)) (k : V X E z (pc + 3) ls (.int (iI n) :: st)) : V X E z pc ls st := k.st (fun H locs L hl k => lv_sipush cx.1 cx.2.1 hd hn k)
theorem v_lconst (cx : Cx X cc ow) {n : Fin 2} {v : Int64} (hv : Int64.ofNat (n : Nat) = v) (hd : decode cc pc = .ok (.lconst n, 1)) (k : V X E z (pc + 1) ls (.long v :: st)) : V X E z pc ls st := k.st (fun H locs L hl k => lv_lconst cx.1 cx.2.1 hd hv k)
theorem v_ldc (cx : Cx X cc ow) {index : Nat} {n : Int} (hc : Cond.constant ow index (Int32.ofInt n) ∈ TB) (hd : decode cc pc = .ok (.ldc index, 2)) (k : V X E z (pc + 2) ls (.int (iI n) :: st)) : V X E z pc ls st := k.st (fun H locs L hl k => lv_ldc cx.1 cx.2.1 cx.2.2.1 (cx.2.2.2.1 _ hc) hd k)
theorem v_iload_n (cx : Cx X cc ow) {k0 : Fin 4} {i : Nat} {x : Int32} (hi : (k0 : Nat) = i) (hg : ls[i]? = some (some (.int x))) (hd : decode cc pc = .ok (.iload_n k0, 1)) (k : V X E z (pc + 1) ls (.int x :: st)) : V X E z pc ls st := k.st (fun H locs L hl k => lv_iload_n cx.1 cx.2.1 hd hi (hl.get hg) k)
theorem v_iload (cx : Cx X cc ow) {i : Nat} {x : Int32} (hg : ls[i]? = some (some (.int x))) (hd : decode cc pc = .ok (.iload i, 2)) (k : V X E z (pc + 2) ls (.int x :: st)) : V X E z pc ls st := k.st (fun H locs L hl k => lv_iload cx.1 cx.2.1 hd (hl.get hg) k)
theorem v_lload_n (cx : Cx X cc ow) {k0 : Fin 4} {i : Nat} {x : Int64} (hi : (k0 : Nat) = i) (hg : ls[i]? = some (some (.long x))) (hd : decode cc pc = .ok (.lload_n k0, 1)) (k : V X E z (pc + 1) ls (.long x :: st)) : V X E z pc ls st := k.st (fun H locs L hl k => lv_lload_n cx.1 cx.2.1 hd hi (hl.get hg) k)
theorem v_lload (cx : Cx X cc ow) {i : Nat} {x : Int64} (hg : ls[i]? = some (some (.long x))) (hd : decode cc pc = .ok (.lload i, 2)) (k : V X E z (pc + 2) ls (.long x :: st)) : V X E z pc ls st := k.st (fun H locs L hl k => lv_lload cx.1 cx.2.1 hd (hl.get hg) k)
theorem v_aload_n (cx : Cx X cc ow) {k0 : Fin 4} {i : Nat} {x : Nat} (hi : (k0 : Nat) = i) (hg : ls[i]? = some (some (.ref x))) (hd : decode cc pc = .ok (.aload_n k0, 1)) (k : V X E z (pc + 1) ls (.ref x :: st)) : V X E z pc ls st := k.st (fun H locs L hl k => lv_aload_n cx.1 cx.2.1 hd hi (hl.get hg) k)
theorem v_aload (cx : Cx X cc ow) {i : Nat} {x : Nat} (hg : ls[i]? = some (some (.ref x))) (hd : decode cc pc = .ok (.aload i, 2)) (k : V X E z (pc + 2) ls (.ref x :: st)) : V X E z pc ls st := k.st (fun H locs L hl k => lv_aload cx.1 cx.2.1 hd (hl.get hg) k)
theorem v_istore_n (cx : Cx X cc ow) {k0 : Fin 4} {i : Nat} {x : Int32} (hi : (k0 : Nat) = i) (hs : SetA i (.int x) ls ls') (hd : decode cc pc = .ok (.istore_n k0, 1)) (k : V X E z (pc + 1) ls' st) : V X E z pc ls (.int x :: st) := k.lo (by rw [hs.2.1, List.length_set]) (fun H locs L hl k => lv_istore_n cx.1 cx.2.1 hd hi hl hs.1 rfl (fun L' h => k L' (lsH.set hs h)))
theorem v_istore (cx : Cx X cc ow) {i : Nat} {x : Int32} (hs : SetA i (.int x) ls ls') (hd : decode cc pc = .ok (.istore i, 2)) (k : V X E z (pc + 2) ls' st) : V X E z pc ls (.int x :: st) := k.lo (by rw [hs.2.1, List.length_set]) (fun H locs L hl k => lv_istore cx.1 cx.2.1 hd hl hs.1 rfl (fun L' h => k L' (lsH.set hs h)))
theorem v_astore_n (cx : Cx X cc ow) {k0 : Fin 4} {i : Nat} {x : Nat} (hi : (k0 : Nat) = i) (hs : SetA i (.ref x) ls ls') (hd : decode cc pc = .ok (.astore_n k0, 1)) (k : V X E z (pc + 1) ls' st) : V X E z pc ls (.ref x :: st) := k.lo (by rw [hs.2.1, List.length_set]) (fun H locs L hl k => lv_astore_n cx.1 cx.2.1 hd hi hl hs.1 rfl (fun L' h => k L' (lsH.set hs h)))
theorem v_astore (cx : Cx X cc ow) {i : Nat} {x : Nat} (hs : SetA i (.ref x) ls ls') (hd : decode cc pc = .ok (.astore i, 2)) (k : V X E z (pc + 2) ls' st) : V X E z pc ls (.ref x :: st) := k.lo (by rw [hs.2.1, List.length_set]) (fun H locs L hl k => lv_astore cx.1 cx.2.1 hd hl hs.1 rfl (fun L' h => k L' (lsH.set hs h)))
theorem v_lstore_n (cx : Cx X cc ow) {k0 : Fin 4} {i : Nat} {x : Int64} (hi : (k0 : Nat) = i) (hs : SetL i (.long x) ls ls') (hd : decode cc pc = .ok (.lstore_n k0, 1)) (k : V X E z (pc + 1) ls' st) : V X E z pc ls (.long x :: st) := k.lo (by rw [hs.2.1, List.length_set, List.length_set]) (fun H locs L hl k => lv_lstore_n cx.1 cx.2.1 hd hi hl hs.1 rfl (fun L' h => k L' (lsH.setL hs h)))
theorem v_lstore (cx : Cx X cc ow) {i : Nat} {x : Int64} (hs : SetL i (.long x) ls ls') (hd : decode cc pc = .ok (.lstore i, 2)) (k : V X E z (pc + 2) ls' st) : V X E z pc ls (.long x :: st) := k.lo (by rw [hs.2.1, List.length_set, List.length_set]) (fun H locs L hl k => lv_lstore cx.1 cx.2.1 hd hl hs.1 rfl (fun L' h => k L' (lsH.setL hs h)))
theorem al_get {i : Nat} {v : Value} (h : ls[i]? = some (some v)) : ∃ k : Nat, (al ls)[k]? = some (i, v) := List.getElem?_of_mem (al_mem.mpr h)
theorem v_iinc (cx : Cx X cc ow) {i : Nat} {n a : Int} (hg : ls[i]? = some (some (.int (iI a)))) (hs : SetA i (.int (iI (a + n))) ls ls') (hd : decode cc pc = .ok (.iinc i n, 3)) (k : V X E z (pc + 3) ls' st) : V X E z pc ls st := k.lo (by rw [hs.2.1, List.length_set]) (fun H locs L hl k => by obtain ⟨j, hj⟩ := al_get hg; exact lv_iinc cx.1 cx.2.1 hd hl hj (iI_add a n) hs.1 rfl (fun L' h => k L' (lsH.set hs h)))
theorem v_iadd (cx : Cx X cc ow) {a b : Int} (hd : decode cc pc = .ok (.iadd, 1)) (k : V X E z (pc + 1) ls (.int (iI (a + b)) :: st)) : V X E z pc ls (.int (iI b) :: .int (iI a) :: st) := k.st (fun H locs L hl k => lv_iadd cx.1 cx.2.1 hd (by rw [iI_add]; exact k))
theorem v_isub (cx : Cx X cc ow) {a b : Int} (hd : decode cc pc = .ok (.isub, 1)) (k : V X E z (pc + 1) ls (.int (iI (a - b)) :: st)) : V X E z pc ls (.int (iI b) :: .int (iI a) :: st) := k.st (fun H locs L hl k => lv_isub cx.1 cx.2.1 hd (by rw [iI_sub]; exact k))
theorem v_imul (cx : Cx X cc ow) {a b : Int} (hd : decode cc pc = .ok (.imul, 1)) (k : V X E z (pc + 1) ls (.int (iI (a * b)) :: st)) : V X E z pc ls (.int (iI b) :: .int (iI a) :: st) := k.st (fun H locs L hl k => lv_imul cx.1 cx.2.1 hd (by rw [iI_mul]; exact k))
theorem v_iand (cx : Cx X cc ow) {x y : Int32} (hd : decode cc pc = .ok (.iand, 1)) (k : V X E z (pc + 1) ls (.int (x &&& y) :: st)) : V X E z pc ls (.int y :: .int x :: st) := k.st (fun H locs L hl k => lv_iand cx.1 cx.2.1 hd k)
theorem v_idiv (cx : Cx X cc ow) {x y : Int32} (hne : ¬ y = 0) (hd : decode cc pc = .ok (.idiv, 1)) (k : V X E z (pc + 1) ls (.int (x / y) :: st)) : V X E z pc ls (.int y :: .int x :: st) := k.st (fun H locs L hl k => lv_idiv cx.1 cx.2.1 hd hne k)
theorem v_lmul (cx : Cx X cc ow) {x y : Int64} (hd : decode cc pc = .ok (.lmul, 1)) (k : V X E z (pc + 1) ls (.long (x * y) :: st)) : V X E z pc ls (.long y :: .long x :: st) := k.st (fun H locs L hl k => lv_lmul cx.1 cx.2.1 hd k)
theorem v_ldiv (cx : Cx X cc ow) {x y : Int64} (hne : ¬ y = 0) (hd : decode cc pc = .ok (.ldiv, 1)) (k : V X E z (pc + 1) ls (.long (x / y) :: st)) : V X E z pc ls (.long y :: .long x :: st) := k.st (fun H locs L hl k => lv_ldiv cx.1 cx.2.1 hd hne k)
theorem v_lrem (cx : Cx X cc ow) {x y : Int64} (hne : ¬ y = 0) (hd : decode cc pc = .ok (.lrem, 1)) (k : V X E z (pc + 1) ls (.long (x - x / y * y) :: st)) : V X E z pc ls (.long y :: .long x :: st) := k.st (fun H locs L hl k => lv_lrem cx.1 cx.2.1 hd hne k)
theorem v_lcmp (cx : Cx X cc ow) {x y : Int64} (hd : decode cc pc = .ok (.lcmp, 1)) (k : V X E z (pc + 1) ls (.int (lg_cmp x y) :: st)) : V X E z pc ls (.long y :: .long x :: st) := k.st (fun H locs L hl k => W.lcmp cx.1 cx.2.1 hd k)
theorem v_i2l (cx : Cx X cc ow) {x : Int32} (hd : decode cc pc = .ok (.i2l, 1)) (k : V X E z (pc + 1) ls (.long x.toInt64 :: st)) : V X E z pc ls (.int x :: st) := k.st (fun H locs L hl k => lv_i2l cx.1 cx.2.1 hd rfl k)
theorem v_l2i (cx : Cx X cc ow) {x : Int64} (hd : decode cc pc = .ok (.l2i, 1)) (k : V X E z (pc + 1) ls (.int x.toInt32 :: st)) : V X E z pc ls (.long x :: st) := k.st (fun H locs L hl k => lv_l2i cx.1 cx.2.1 hd rfl k)
theorem v_i2c (cx : Cx X cc ow) {a : Int} (h : 0 ≤ a ∧ a < 65536) (hd : decode cc pc = .ok (.i2c, 1)) (k : V X E z (pc + 1) ls (.int (iI a) :: st)) : V X E z pc ls (.int (iI a) :: st) := k.st (fun H locs L hl k => lv_i2c cx.1 cx.2.1 hd (iI_char h) k)
theorem v_dup (cx : Cx X cc ow) {v : Value} (hv : v.category = 1) (hd : decode cc pc = .ok (.dup, 1)) (k : V X E z (pc + 1) ls (v :: v :: st)) : V X E z pc ls (v :: st) := k.st (fun H locs L hl k => lv_dup cx.1 cx.2.1 hd hv k)
theorem v_dup2 (cx : Cx X cc ow) {v w : Value} (hv : v.category = 1) (hw : w.category = 1) (hd : decode cc pc = .ok (.dup2, 1)) (k : V X E z (pc + 1) ls (v :: w :: v :: w :: st)) : V X E z pc ls (v :: w :: st) := k.st (fun H locs L hl k => lv_dup2_11 cx.1 cx.2.1 hd hv hw k)
theorem v_pop (cx : Cx X cc ow) {v : Value} (hv : v.category = 1) (hd : decode cc pc = .ok (.pop, 1)) (k : V X E z (pc + 1) ls st) : V X E z pc ls (v :: st) := k.st (fun H locs L hl k => lv_pop cx.1 cx.2.1 hd hv k)
theorem v_goto (cx : Cx X cc ow) {off : Int} (tgt : Nat) (hd : decode cc pc = .ok (.goto off, 3)) (ht : (pc : Int) + off = (tgt : Int)) (k : V X E z tgt ls st) : V X E z pc ls st := k.st (fun H locs L hl k => lv_goto cx.1 cx.2.1 hd ht k)
theorem v_icmp_eq (cx : Cx X cc ow) {a b off : Int} (tgt : Nat) (hd : decode cc pc = .ok (.if_icmp .eq off, 3)) (ht : (pc : Int) + off = (tgt : Int)) (h : (-2147483648 ≤ a ∧ a < 2147483648) ∧ (-2147483648 ≤ b ∧ b < 2147483648)) (kt : a = b → V X E z tgt ls st) (kf : a ≠ b → V X E z (pc + 3) ls st) : V X E z pc ls (.int (iI b) :: .int (iI a) :: st) := fun H locs L h1 => by
  have e := iI_eq (a := a) (b := b) h.1 h.2
  exact lv_icmp_eq cx.1 cx.2.1 hd ht (fun q => kt (e.mp q) H locs L h1) (fun q => kf (fun q2 => q (e.mpr q2)) H locs L h1)
theorem v_if_eq (cx : Cx X cc ow) {a off : Int} (tgt : Nat) (hd : decode cc pc = .ok (.ifCond .eq off, 3)) (ht : (pc : Int) + off = (tgt : Int)) (h : (-2147483648 ≤ a ∧ a < 2147483648)) (kt : a = 0 → V X E z tgt ls st) (kf : a ≠ 0 → V X E z (pc + 3) ls st) : V X E z pc ls (.int (iI a) :: st) := fun H locs L h1 => by
  have e := iI_eq (a := a) (b := 0) h ⟨by omega, by omega⟩
  exact lv_if_eq cx.1 cx.2.1 hd ht (fun q => kt (e.mp q) H locs L h1) (fun q => kf (fun q2 => q (e.mpr q2)) H locs L h1)
theorem v_icmp_ne (cx : Cx X cc ow) {a b off : Int} (tgt : Nat) (hd : decode cc pc = .ok (.if_icmp .ne off, 3)) (ht : (pc : Int) + off = (tgt : Int)) (h : (-2147483648 ≤ a ∧ a < 2147483648) ∧ (-2147483648 ≤ b ∧ b < 2147483648)) (kt : a ≠ b → V X E z tgt ls st) (kf : a = b → V X E z (pc + 3) ls st) : V X E z pc ls (.int (iI b) :: .int (iI a) :: st) := fun H locs L h1 => by
  have e := iI_eq (a := a) (b := b) h.1 h.2
  exact lv_icmp_ne cx.1 cx.2.1 hd ht (fun q => kt (fun q2 => q (e.mpr q2)) H locs L h1) (fun q => kf (e.mp q) H locs L h1)
theorem v_if_ne (cx : Cx X cc ow) {a off : Int} (tgt : Nat) (hd : decode cc pc = .ok (.ifCond .ne off, 3)) (ht : (pc : Int) + off = (tgt : Int)) (h : (-2147483648 ≤ a ∧ a < 2147483648)) (kt : a ≠ 0 → V X E z tgt ls st) (kf : a = 0 → V X E z (pc + 3) ls st) : V X E z pc ls (.int (iI a) :: st) := fun H locs L h1 => by
  have e := iI_eq (a := a) (b := 0) h ⟨by omega, by omega⟩
  exact lv_if_ne cx.1 cx.2.1 hd ht (fun q => kt (fun q2 => q (e.mpr q2)) H locs L h1) (fun q => kf (e.mp q) H locs L h1)
theorem v_icmp_lt (cx : Cx X cc ow) {a b off : Int} (tgt : Nat) (hd : decode cc pc = .ok (.if_icmp .lt off, 3)) (ht : (pc : Int) + off = (tgt : Int)) (h : (-2147483648 ≤ a ∧ a < 2147483648) ∧ (-2147483648 ≤ b ∧ b < 2147483648)) (kt : a < b → V X E z tgt ls st) (kf : b ≤ a → V X E z (pc + 3) ls st) : V X E z pc ls (.int (iI b) :: .int (iI a) :: st) := fun H locs L h1 => by
  have e := iI_lt (a := a) (b := b) h.1 h.2
  exact lv_icmp_lt cx.1 cx.2.1 hd ht (fun q => kt (e.mp q) H locs L h1) (fun q => kf (Int.not_lt.mp (fun q2 => q (e.mpr q2))) H locs L h1)
theorem v_if_lt (cx : Cx X cc ow) {a off : Int} (tgt : Nat) (hd : decode cc pc = .ok (.ifCond .lt off, 3)) (ht : (pc : Int) + off = (tgt : Int)) (h : (-2147483648 ≤ a ∧ a < 2147483648)) (kt : a < 0 → V X E z tgt ls st) (kf : 0 ≤ a → V X E z (pc + 3) ls st) : V X E z pc ls (.int (iI a) :: st) := fun H locs L h1 => by
  have e := iI_lt (a := a) (b := 0) h ⟨by omega, by omega⟩
  exact lv_if_lt cx.1 cx.2.1 hd ht (fun q => kt (e.mp q) H locs L h1) (fun q => kf (Int.not_lt.mp (fun q2 => q (e.mpr q2))) H locs L h1)
theorem v_icmp_ge (cx : Cx X cc ow) {a b off : Int} (tgt : Nat) (hd : decode cc pc = .ok (.if_icmp .ge off, 3)) (ht : (pc : Int) + off = (tgt : Int)) (h : (-2147483648 ≤ a ∧ a < 2147483648) ∧ (-2147483648 ≤ b ∧ b < 2147483648)) (kt : b ≤ a → V X E z tgt ls st) (kf : a < b → V X E z (pc + 3) ls st) : V X E z pc ls (.int (iI b) :: .int (iI a) :: st) := fun H locs L h1 => by
  have e := iI_le (a := b) (b := a) h.2 h.1
  exact lv_icmp_ge cx.1 cx.2.1 hd ht (fun q => kt (e.mp q) H locs L h1) (fun q => kf (Int.not_le.mp (fun q2 => q (e.mpr q2))) H locs L h1)
theorem v_if_ge (cx : Cx X cc ow) {a off : Int} (tgt : Nat) (hd : decode cc pc = .ok (.ifCond .ge off, 3)) (ht : (pc : Int) + off = (tgt : Int)) (h : (-2147483648 ≤ a ∧ a < 2147483648)) (kt : 0 ≤ a → V X E z tgt ls st) (kf : a < 0 → V X E z (pc + 3) ls st) : V X E z pc ls (.int (iI a) :: st) := fun H locs L h1 => by
  have e := iI_le (a := 0) (b := a) ⟨by omega, by omega⟩ h
  exact lv_if_ge cx.1 cx.2.1 hd ht (fun q => kt (e.mp q) H locs L h1) (fun q => kf (Int.not_le.mp (fun q2 => q (e.mpr q2))) H locs L h1)
theorem v_icmp_gt (cx : Cx X cc ow) {a b off : Int} (tgt : Nat) (hd : decode cc pc = .ok (.if_icmp .gt off, 3)) (ht : (pc : Int) + off = (tgt : Int)) (h : (-2147483648 ≤ a ∧ a < 2147483648) ∧ (-2147483648 ≤ b ∧ b < 2147483648)) (kt : b < a → V X E z tgt ls st) (kf : a ≤ b → V X E z (pc + 3) ls st) : V X E z pc ls (.int (iI b) :: .int (iI a) :: st) := fun H locs L h1 => by
  have e := iI_lt (a := b) (b := a) h.2 h.1
  exact lv_icmp_gt cx.1 cx.2.1 hd ht (fun q => kt (e.mp q) H locs L h1) (fun q => kf (Int.not_lt.mp (fun q2 => q (e.mpr q2))) H locs L h1)
theorem v_if_gt (cx : Cx X cc ow) {a off : Int} (tgt : Nat) (hd : decode cc pc = .ok (.ifCond .gt off, 3)) (ht : (pc : Int) + off = (tgt : Int)) (h : (-2147483648 ≤ a ∧ a < 2147483648)) (kt : 0 < a → V X E z tgt ls st) (kf : a ≤ 0 → V X E z (pc + 3) ls st) : V X E z pc ls (.int (iI a) :: st) := fun H locs L h1 => by
  have e := iI_lt (a := 0) (b := a) ⟨by omega, by omega⟩ h
  exact lv_if_gt cx.1 cx.2.1 hd ht (fun q => kt (e.mp q) H locs L h1) (fun q => kf (Int.not_lt.mp (fun q2 => q (e.mpr q2))) H locs L h1)
theorem v_icmp_le (cx : Cx X cc ow) {a b off : Int} (tgt : Nat) (hd : decode cc pc = .ok (.if_icmp .le off, 3)) (ht : (pc : Int) + off = (tgt : Int)) (h : (-2147483648 ≤ a ∧ a < 2147483648) ∧ (-2147483648 ≤ b ∧ b < 2147483648)) (kt : a ≤ b → V X E z tgt ls st) (kf : b < a → V X E z (pc + 3) ls st) : V X E z pc ls (.int (iI b) :: .int (iI a) :: st) := fun H locs L h1 => by
  have e := iI_le (a := a) (b := b) h.1 h.2
  exact lv_icmp_le cx.1 cx.2.1 hd ht (fun q => kt (e.mp q) H locs L h1) (fun q => kf (Int.not_le.mp (fun q2 => q (e.mpr q2))) H locs L h1)
theorem v_if_le (cx : Cx X cc ow) {a off : Int} (tgt : Nat) (hd : decode cc pc = .ok (.ifCond .le off, 3)) (ht : (pc : Int) + off = (tgt : Int)) (h : (-2147483648 ≤ a ∧ a < 2147483648)) (kt : a ≤ 0 → V X E z tgt ls st) (kf : 0 < a → V X E z (pc + 3) ls st) : V X E z pc ls (.int (iI a) :: st) := fun H locs L h1 => by
  have e := iI_le (a := a) (b := 0) h ⟨by omega, by omega⟩
  exact lv_if_le cx.1 cx.2.1 hd ht (fun q => kt (e.mp q) H locs L h1) (fun q => kf (Int.not_le.mp (fun q2 => q (e.mpr q2))) H locs L h1)
theorem v_if_icmp_eqI (cx : Cx X cc ow) {x y : Int32} {off : Int} (tgt : Nat) (hd : decode cc pc = .ok (.if_icmp .eq off, 3)) (ht : (pc : Int) + off = (tgt : Int)) (kt : x = y → V X E z tgt ls st) (kf : ¬ x = y → V X E z (pc + 3) ls st) : V X E z pc ls (.int y :: .int x :: st) := fun H locs L h1 => lv_icmp_eq cx.1 cx.2.1 hd ht (fun q => kt q H locs L h1) (fun q => kf q H locs L h1)
theorem v_tableIn (cx : Cx X cc ow) {dflt lo hi a : Int} {offs : Array Int} {len : Nat} {off : Int} (tgt : Nat) (hd : decode cc pc = .ok (.tableswitch dflt lo hi offs, len)) (h : lo ≤ a ∧ a ≤ hi ∧ -2147483648 ≤ a ∧ a < 2147483648) (ho : offs[(a - lo).toNat]? = some off) (ht : (pc : Int) + off = (tgt : Int)) (k : V X E z tgt ls st) : V X E z pc ls (.int (iI a) :: st) := k.st (fun H locs L hl k => lv_tableIn cx.1 cx.2.1 hd (by rw [iI_toInt ⟨h.2.2.1, h.2.2.2⟩]; omega) (by rw [iI_toInt ⟨h.2.2.1, h.2.2.2⟩]; omega) (by rw [iI_toInt ⟨h.2.2.1, h.2.2.2⟩]; exact ho) ht k)
theorem v_tableOut (cx : Cx X cc ow) {dflt lo hi a : Int} {offs : Array Int} {len : Nat} (tgt : Nat) (hd : decode cc pc = .ok (.tableswitch dflt lo hi offs, len)) (h : (a < lo ∨ hi < a) ∧ -2147483648 ≤ a ∧ a < 2147483648) (ht : (pc : Int) + dflt = (tgt : Int)) (k : V X E z tgt ls st) : V X E z pc ls (.int (iI a) :: st) := k.st (fun H locs L hl k => lv_tableOut cx.1 cx.2.1 hd (by rw [iI_toInt ⟨h.2.1, h.2.2⟩]; exact h.1) ht k)
end Rows
end
section
/-! rows of the memory, over the judgement V -/
def upW (E : Wd) (o : Nat) (e : va_E) : Wd := fun j => if j = o then some e else E j
theorem upW_s {E : Wd} {o : Nat} {e : va_E} : upW E o e o = some e := by simp [upW]
theorem upW_n {E : Wd} {o : Nat} {e : va_E} : ∀ j, j ≠ o → upW E o e j = E j := fun j h => by simp [upW, h]
def upI (g : Nat → Int) (j : Nat) (x : Int) : Nat → Int := fun q => if q = j then x else g q
theorem upI_s {g : Nat → Int} {j : Nat} {x : Int} : upI g j x j = x := by simp [upI]
theorem upI_n {g : Nat → Int} {j q : Nat} {x : Int} (h : q ≠ j) : upI g j x q = g q := by simp [upI, h]
theorem upI_a (g : Nat → Int) (j : Nat) (x : Int) (q : Nat) : upI g j x q = if q = j then x else g q := rfl
def upO (g : Nat → Option Nat) (j : Nat) (x : Option Nat) : Nat → Option Nat := fun q => if q = j then x else g q
theorem upO_a (g : Nat → Option Nat) (j : Nat) (x : Option Nat) (q : Nat) : upO g j x q = if q = j then x else g q := rfl
theorem wdH.one {G : Gc} {E : Wd} {H : Heap} {o : Nat} {e : va_E} (h : wdH G E H) (he : E o = some e) : va_P (gD G) vwCl [(gb G + o, e)] H := fun k q hk => by
  match k, hk with
  | 0, hk => cases hk; exact h o e he
  | k + 1, hk => simp at hk
theorem wdH.upd {G : Gc} {E : Wd} {H H1 : Heap} {o : Nat} {e : va_E} (h : wdH G E H) (he : va_at (gD G) vwCl (gb G + o, e) H1) (oq : ∀ q : Nat, q ≠ gb G + o → H1[q]? = H[q]?) : wdH G (upW E o e) H1 := by
  intro k x hk
  by_cases hko : k = o
  · subst hko
    rw [upW_s] at hk
    cases hk
    exact he
  · rw [upW_n k hko] at hk
    exact (h k x hk).kept (oq _ (by show gb G + k ≠ _; omega))
theorem gO_o {G : Gc} {o : Nat} : gO G (gb G + o) := Nat.le_add_right _ _
def FL (ow : String) (idx ci k : Nat) : Prop := ∃ (C : String) (T : u_T) (N : Nat), vwCl[ci]? = some (C, T, N) ∧ k < N ∧ (∀ w ∈ u_ws C T N, w ∈ TB) ∧ Cond.fieldLink ow idx (T k).1 (T k).2.1 (T k).2.2.1 ∈ TB
def FP (ow : String) (idx ci k : Nat) (fin : Bool) (ty : FieldType) : Prop := ∃ (C : String) (T : u_T) (N : Nat) (ty0 : Nat → FieldType), vwCl[ci]? = some (C, T, N) ∧ k < N ∧ (∀ w ∈ u_ws C T N, w ∈ TB) ∧ Cond.fieldLink ow idx (T k).1 (T k).2.1 (T k).2.2.1 ∈ TB ∧ (∀ k, k < N → parseFieldDescriptor (T k).2.2.1 = some (ty0 k)) ∧ (∀ a, a < N → ∀ b, b < N → a ≠ b → (T a).2.1 ≠ (T b).2.1) ∧ ty0 k = ty ∧ (T k).2.2.2 = fin ∧ (fin = true → (T k).1 = ow)
def PF (k : Nat) (v : Value) (fs fs' : List Value) : Prop := k < fs.length ∧ fs' = fs.set k v
theorem pf0 {v a : Value} {l : List Value} : PF 0 v (a :: l) (v :: l) := ⟨by simp, rfl⟩
theorem pf1 {v x0 a : Value} {l : List Value} : PF 1 v (x0 :: a :: l) (x0 :: v :: l) := ⟨by simp, rfl⟩
theorem pf2 {v x0 x1 a : Value} {l : List Value} : PF 2 v (x0 :: x1 :: a :: l) (x0 :: x1 :: v :: l) := ⟨by simp, rfl⟩
theorem pf3 {v x0 x1 x2 a : Value} {l : List Value} : PF 3 v (x0 :: x1 :: x2 :: a :: l) (x0 :: x1 :: x2 :: v :: l) := ⟨by simp, rfl⟩
theorem pf4 {v x0 x1 x2 x3 a : Value} {l : List Value} : PF 4 v (x0 :: x1 :: x2 :: x3 :: a :: l) (x0 :: x1 :: x2 :: x3 :: v :: l) := ⟨by simp, rfl⟩
theorem pf5 {v x0 x1 x2 x3 x4 a : Value} {l : List Value} : PF 5 v (x0 :: x1 :: x2 :: x3 :: x4 :: a :: l) (x0 :: x1 :: x2 :: x3 :: x4 :: v :: l) := ⟨by simp, rfl⟩
theorem pf6 {v x0 x1 x2 x3 x4 x5 a : Value} {l : List Value} : PF 6 v (x0 :: x1 :: x2 :: x3 :: x4 :: x5 :: a :: l) (x0 :: x1 :: x2 :: x3 :: x4 :: x5 :: v :: l) := ⟨by simp, rfl⟩
theorem pf7 {v x0 x1 x2 x3 x4 x5 x6 a : Value} {l : List Value} : PF 7 v (x0 :: x1 :: x2 :: x3 :: x4 :: x5 :: x6 :: a :: l) (x0 :: x1 :: x2 :: x3 :: x4 :: x5 :: x6 :: v :: l) := ⟨by simp, rfl⟩
theorem pf8 {v x0 x1 x2 x3 x4 x5 x6 x7 a : Value} {l : List Value} : PF 8 v (x0 :: x1 :: x2 :: x3 :: x4 :: x5 :: x6 :: x7 :: a :: l) (x0 :: x1 :: x2 :: x3 :: x4 :: x5 :: x6 :: x7 :: v :: l) := ⟨by simp, rfl⟩
theorem pf9 {v x0 x1 x2 x3 x4 x5 x6 x7 x8 a : Value} {l : List Value} : PF 9 v (x0 :: x1 :: x2 :: x3 :: x4 :: x5 :: x6 :: x7 :: x8 :: a :: l) (x0 :: x1 :: x2 :: x3 :: x4 :: x5 :: x6 :: x7 :: x8 :: v :: l) := ⟨by simp, rfl⟩
theorem pf10 {v x0 x1 x2 x3 x4 x5 x6 x7 x8 x9 a : Value} {l : List Value} : PF 10 v (x0 :: x1 :: x2 :: x3 :: x4 :: x5 :: x6 :: x7 :: x8 :: x9 :: a :: l) (x0 :: x1 :: x2 :: x3 :: x4 :: x5 :: x6 :: x7 :: x8 :: x9 :: v :: l) := ⟨by simp, rfl⟩
theorem pf11 {v x0 x1 x2 x3 x4 x5 x6 x7 x8 x9 x10 a : Value} {l : List Value} : PF 11 v (x0 :: x1 :: x2 :: x3 :: x4 :: x5 :: x6 :: x7 :: x8 :: x9 :: x10 :: a :: l) (x0 :: x1 :: x2 :: x3 :: x4 :: x5 :: x6 :: x7 :: x8 :: x9 :: x10 :: v :: l) := ⟨by simp, rfl⟩
section Mem
variable {X : Fx} {E : Wd} {z : Nat × Nat × Nat} {pc : Nat} {ls ls' : List (Option Value)} {st : List Value} {cc : ByteArray} {ow : String}
theorem v_getfield (cx : Cx X cc ow) {idx ci k o : Nat} {fs : List Value} {v : Value} (hf : FL ow idx ci k) (he : E o = some (.inr (ci, fs))) (hv : fs[k]? = some v) (hd : decode cc pc = .ok (.getfield idx, 3)) (kk : V X E z (pc + 3) ls (v :: st)) : V X E z pc ls (.ref (gb (fG X) + o) :: st) := by
  intro H locs L h1
  obtain ⟨C, T, N, hc, hk, hin, hl⟩ := hf
  exact va_get cx.1 cx.2.1 cx.2.2.2.1 hin cx.2.2.1 cx.2.2.2.2.1.1 (h1.1.one he) 0 rfl hc k hk (cx.2.2.2.1 _ hl) (fun _ h => h) hv hd (kk H locs L h1)
theorem v_putfield (cx : Cx X cc ow) {idx ci k o : Nat} {fs fs' : List Value} {v : Value} {ty : FieldType} (hf : FP ow idx ci k false ty) (he : E o = some (.inr (ci, fs))) (hn : narrow ty v = v ∧ fits ty v = true) (hs : PF k v fs fs') (hd : decode cc pc = .ok (.putfield idx, 3)) (kk : ∀ E1 : Wd, E1 o = some (.inr (ci, fs')) → (∀ j, j ≠ o → E1 j = E j) → V X E1 z (pc + 3) ls st) : V X E z pc ls (v :: .ref (gb (fG X) + o) :: st) := by
  intro H locs L h1
  obtain ⟨C, T, N, ty0, hc, hk, hin, hl, hty, hnm, ht, hfin, -⟩ := hf
  obtain ⟨hlt, rfl⟩ := hs
  have hts := cx.2.2.2.1
  have hK := cx.2.2.2.2.1.1
  have hap := va_apart (own := ow) hts hin ty0 hty hnm hK hc
  obtain ⟨r, h2, cell, q1, q2, q3, q4⟩ := h1.1 o _ he
  have hr : r = (C, T, N) := Option.some.inj (h2.symm.trans hc)
  subst hr
  obtain ⟨hS, hfc, kC, hkC, hkind⟩ := hK.1 ci _ hc
  obtain ⟨cf, kf, fi, f, hi, hsl⟩ := hS k hk
  have hlay := hts _ (hin _ (u_in_lay hk))
  unfold u_lay at hlay
  rw [if_neg (by rw [hfin]; decide)] at hlay
  have hst := (u_facts hfc hkC (u_lays hts hin hk) hi).1
  have h6 := u_store hfc hkC hkind hlay hi (hty k hk) (by rw [ht]; exact hn.1) (by rw [ht]; exact hn.2)
  refine W.putK cx.1 cx.2.1 (f := f) ⟨cx.2.2.1, hts _ hl, ⟨_, _, _, hi⟩, hst⟩ (by rw [q2]; exact h6) q1 q3 (by rw [hsl]; exact k2_hasslot (q4 k hk)) rfl rfl hd fun H' e1 e2 e3 => ?_
  rw [hsl] at e1 ⊢
  exact kk _ upW_s upW_n H' _ L ⟨h1.1.upd ⟨_, hc, t_OB.to (V := updV (vp_V fs) k v) ⟨_, e1, q2, q3, t_set q4 hap hk v⟩ (fun j _ => vp_updV_set hlt v j)⟩ e3, by rw [e2]; exact h1.2.1, h1.2.2.1.put e2 e3 gO_o, h1.2.2.2⟩
theorem v_putfieldF (cx : Cx X cc ow) (hini : (fMe X).name = "<init>") {idx ci k o : Nat} {fs fs' : List Value} {v : Value} {ty : FieldType} (hf : FP ow idx ci k true ty) (he : E o = some (.inr (ci, fs))) (hn : narrow ty v = v ∧ fits ty v = true) (hs : PF k v fs fs') (hd : decode cc pc = .ok (.putfield idx, 3)) (kk : ∀ E1 : Wd, E1 o = some (.inr (ci, fs')) → (∀ j, j ≠ o → E1 j = E j) → V X E1 z (pc + 3) ls st) : V X E z pc ls (v :: .ref (gb (fG X) + o) :: st) := by
  intro H locs L h1
  obtain ⟨C, T, N, ty0, hc, hk, hin, hl, hty, hnm, ht, hfin, hdecl⟩ := hf
  obtain ⟨hlt, rfl⟩ := hs
  have hts := cx.2.2.2.1
  have hK := cx.2.2.2.2.1.1
  have hown := cx.2.2.1
  have hap := va_apart (own := ow) hts hin ty0 hty hnm hK hc
  obtain ⟨r, h2, cell, q1, q2, q3, q4⟩ := h1.1 o _ he
  have hr : r = (C, T, N) := Option.some.inj (h2.symm.trans hc)
  subst hr
  obtain ⟨hS, hfc, kC, hkC, hkind⟩ := hK.1 ci _ hc
  obtain ⟨cf, kf, fi, f, hi, hsl⟩ := hS k hk
  have hlay := hts _ (hin _ (u_in_lay hk))
  unfold u_lay at hlay
  rw [if_pos hfin] at hlay
  have hst := (u_facts hfc hkC (u_lays hts hin hk) hi).1
  have hcf : (fM X).cls = cf := by
    obtain ⟨_, _, c', _, _, _, -, -, hf', -, -, -, hown2, -⟩ := Cond.laysFinal_spec hlay
    have e1 : c' = cf := by have := hi.symm.trans hf'; simp at this; exact this.1.symm
    rw [hdecl rfl] at hown2
    rw [← e1]; exact Option.some.inj (hown.symm.trans hown2)
  have h6 := u_fits hfc hkC hkind (Or.inr hlay) hi (hty k hk) (by rw [ht]; exact hn.1) (by rw [ht]; exact hn.2)
  refine W.putFinK cx.1 cx.2.1 hown (hts _ hl) hi hst hcf hini (by rw [q2]; exact h6) q1 q3 (by rw [hsl]; exact k2_hasslot (q4 k hk)) rfl rfl hd fun H' e1 e2 e3 => ?_
  rw [hsl] at e1 ⊢
  exact kk _ upW_s upW_n H' _ L ⟨h1.1.upd ⟨_, hc, t_OB.to (V := updV (vp_V fs) k v) ⟨_, e1, q2, q3, t_set q4 hap hk v⟩ (fun j _ => vp_updV_set hlt v j)⟩ e3, by rw [e2]; exact h1.2.1, h1.2.2.1.put e2 e3 gO_o, h1.2.2.2⟩
theorem v_iaload (cx : Cx X cc ow) {o n : Nat} {g : Nat → Int} {i : Int} (j : Nat) (he : E o = some (AI (fG X) n g)) (hj : i = (j : Int) ∧ j < n ∧ (j : Int) < 2147483648) (hd : decode cc pc = .ok (.iaload, 1)) (kk : V X E z (pc + 1) ls (.int (iI (g j)) :: st)) : V X E z pc ls (.int (iI i) :: .ref (gb (fG X) + o) :: st) := by
  intro H locs L h1
  obtain ⟨e1, e2⟩ := iI_in hj.1 hj.2.1 hj.2.2
  exact va_iald cx.1 cx.2.1 cx.2.2.2.2.1.1 (h1.1.one he) 0 0 rfl rfl e1 hd (by rw [e2]; exact kk H locs L h1)
theorem v_caload (cx : Cx X cc ow) {o n : Nat} {g : Nat → Int} {i : Int} (j : Nat) (he : E o = some (AC (fG X) n g)) (hj : i = (j : Int) ∧ j < n ∧ (j : Int) < 2147483648) (hd : decode cc pc = .ok (.caload, 1)) (kk : V X E z (pc + 1) ls (.int (iI (g j)) :: st)) : V X E z pc ls (.int (iI i) :: .ref (gb (fG X) + o) :: st) := by
  intro H locs L h1
  obtain ⟨e1, e2⟩ := iI_in hj.1 hj.2.1 hj.2.2
  exact va_cald cx.1 cx.2.1 cx.2.2.2.2.1.1 (h1.1.one he) 0 1 rfl rfl e1 hd (by rw [e2]; exact kk H locs L h1)
theorem v_baload (cx : Cx X cc ow) {o n : Nat} {g : Nat → Int} {i : Int} (j : Nat) (he : E o = some (AZ (fG X) n g)) (hj : i = (j : Int) ∧ j < n ∧ (j : Int) < 2147483648) (hd : decode cc pc = .ok (.baload, 1)) (kk : V X E z (pc + 1) ls (.int (iI (g j)) :: st)) : V X E z pc ls (.int (iI i) :: .ref (gb (fG X) + o) :: st) := by
  intro H locs L h1
  obtain ⟨e1, e2⟩ := iI_in hj.1 hj.2.1 hj.2.2
  exact va_zald cx.1 cx.2.1 cx.2.2.2.2.1.1 (h1.1.one he) 0 2 rfl rfl e1 hd (by rw [e2]; exact kk H locs L h1)
theorem v_aaload (cx : Cx X cc ow) {o n r : Nat} {g : Nat → Option Nat} {i : Int} (j : Nat) (he : E o = some (AS (fG X) n g)) (hj : i = (j : Int) ∧ j < n ∧ (j : Int) < 2147483648) (hr : g j = some r) (hd : decode cc pc = .ok (.aaload, 1)) (kk : V X E z (pc + 1) ls (.ref (gb (fG X) + r) :: st)) : V X E z pc ls (.int (iI i) :: .ref (gb (fG X) + o) :: st) := by
  intro H locs L h1
  obtain ⟨e1, e2⟩ := iI_in hj.1 hj.2.1 hj.2.2
  exact va_aldq cx.1 cx.2.1 cx.2.2.2.2.1.1 (h1.1.one he) 0 3 rfl rfl e1 hd (by rw [e2, hr]; exact kk H locs L h1)
theorem v_alen (cx : Cx X cc ow) {o n : Nat} {a : Nat × ((Nat → Int32) ⊕ (Nat → Int64) ⊕ (Nat → UInt32) ⊕ (Nat → UInt64) ⊕ (Nat → Option Nat))} (he : E o = some (.inl (gK (fG X) 0, a))) (hn : a.1 = n) (hd : decode cc pc = .ok (.arraylength, 1)) (kk : V X E z (pc + 1) ls (.int (iI (n : Int)) :: st)) : V X E z pc ls (.ref (gb (fG X) + o) :: st) := by
  intro H locs L h1
  subst hn
  exact va_alen cx.1 cx.2.1 cx.2.2.2.2.1.1 (h1.1.one he) 0 0 rfl rfl (Int32.ofInt_eq_ofNat (n := a.1)).symm hd (kk H locs L h1)
theorem AI_upd {G : Gc} {n j : Nat} {g : Nat → Int} {x : Int} {c : ClassId} : (.inl (c, n, .inl (upd (fun q => iI (g q)) j (iI x))) : va_E) = .inl (c, n, .inl (fun q => iI (upI g j x q))) := by
  congr 4
  funext q
  by_cases h : q = j <;> simp [upd, upI, h]
theorem v_iastore (cx : Cx X cc ow) {o n : Nat} {g : Nat → Int} {i x : Int} (j : Nat) (he : E o = some (AI (fG X) n g)) (hj : i = (j : Int) ∧ j < n ∧ (j : Int) < 2147483648) (hd : decode cc pc = .ok (.iastore, 1)) (kk : ∀ E1 : Wd, E1 o = some (AI (fG X) n (upI g j x)) → (∀ j, j ≠ o → E1 j = E j) → V X E1 z (pc + 1) ls st) : V X E z pc ls (.int (iI x) :: .int (iI i) :: .ref (gb (fG X) + o) :: st) := by
  intro H locs L h1
  obtain ⟨e1, e2⟩ := iI_in hj.1 hj.2.1 hj.2.2
  refine W.iast cx.1 cx.2.1 (h1.1 o _ he) ((cx.2.2.2.2.1.1.2 0 _ rfl).1 n (fun j => .int (iI (g j)))) (fun q => by cases q) (by show ¬ (iI i < 0 ∨ (arrV _ _ _).slots.size ≤ _); rw [arrV_size]; exact e1) rfl rfl hd fun H1 e z1 oq => ?_
  refine kk _ upW_s upW_n H1 _ L ⟨h1.1.upd ?_ oq, by rw [z1]; exact h1.2.1, h1.2.2.1.put z1 oq gO_o, h1.2.2.2⟩
  show H1[_]? = some (vp_cell _ _)
  rw [e, e2]
  rw [vp_cell_i, vp_cell_i, arrV_store]
  congr 2
  funext q
  by_cases hq : q = j
  · subst hq
    simp [updV, upI]
  · simp [updV, upI, hq]
theorem v_castore (cx : Cx X cc ow) {o n : Nat} {g : Nat → Int} {i x : Int} (j : Nat) (he : E o = some (AC (fG X) n g)) (hj : i = (j : Int) ∧ j < n ∧ (j : Int) < 2147483648) (hx : narrow .char (.int (iI x)) = .int (iI x)) (hd : decode cc pc = .ok (.castore, 1)) (kk : ∀ E1 : Wd, E1 o = some (AC (fG X) n (upI g j x)) → (∀ j, j ≠ o → E1 j = E j) → V X E1 z (pc + 1) ls st) : V X E z pc ls (.int (iI x) :: .int (iI i) :: .ref (gb (fG X) + o) :: st) := by
  intro H locs L h1
  obtain ⟨e1, e2⟩ := iI_in hj.1 hj.2.1 hj.2.2
  refine W.cast cx.1 cx.2.1 (h1.1 o _ he) ((cx.2.2.2.2.1.1.2 1 _ rfl).1 n (fun j => .int (iI (g j)))) (fun q => by cases q) (by show ¬ (iI i < 0 ∨ (arrV _ _ _).slots.size ≤ _); rw [arrV_size]; exact e1) rfl rfl hd fun H1 e z1 oq => ?_
  refine kk _ upW_s upW_n H1 _ L ⟨h1.1.upd ?_ oq, by rw [z1]; exact h1.2.1, h1.2.2.1.put z1 oq gO_o, h1.2.2.2⟩
  show H1[_]? = some (vp_cell _ _)
  rw [e, e2, hx]
  rw [vp_cell_i, vp_cell_i, arrV_store]
  congr 2
  funext q
  by_cases hq : q = j
  · subst hq
    simp [updV, upI]
  · simp [updV, upI, hq]
theorem v_bastore (cx : Cx X cc ow) {o n : Nat} {g : Nat → Int} {i x : Int} (j : Nat) (he : E o = some (AZ (fG X) n g)) (hj : i = (j : Int) ∧ j < n ∧ (j : Int) < 2147483648) (hx : narrow .boolean (.int (iI x)) = .int (iI x)) (hd : decode cc pc = .ok (.bastore, 1)) (kk : ∀ E1 : Wd, E1 o = some (AZ (fG X) n (upI g j x)) → (∀ j, j ≠ o → E1 j = E j) → V X E1 z (pc + 1) ls st) : V X E z pc ls (.int (iI x) :: .int (iI i) :: .ref (gb (fG X) + o) :: st) := by
  intro H locs L h1
  obtain ⟨e1, e2⟩ := iI_in hj.1 hj.2.1 hj.2.2
  refine W.zast cx.1 cx.2.1 (h1.1 o _ he) ((cx.2.2.2.2.1.1.2 2 _ rfl).1 n (fun j => .int (iI (g j)))) (fun q => by cases q) (by show ¬ (iI i < 0 ∨ (arrV _ _ _).slots.size ≤ _); rw [arrV_size]; exact e1) rfl rfl hd fun H1 e z1 oq => ?_
  refine kk _ upW_s upW_n H1 _ L ⟨h1.1.upd ?_ oq, by rw [z1]; exact h1.2.1, h1.2.2.1.put z1 oq gO_o, h1.2.2.2⟩
  show H1[_]? = some (vp_cell _ _)
  rw [e, e2, hx]
  rw [vp_cell_i, vp_cell_i, arrV_store]
  congr 2
  funext q
  by_cases hq : q = j
  · subst hq
    simp [updV, upI]
  · simp [updV, upI, hq]
theorem v_aastore (cx : Cx X cc ow) {o n r : Nat} {g : Nat → Option Nat} {i : Int} {fs : List Value} (j : Nat) (he : E o = some (AS (fG X) n g)) (hj : i = (j : Int) ∧ j < n ∧ (j : Int) < 2147483648) (hr : E r = some (.inr (9, fs))) (hd : decode cc pc = .ok (.aastore, 1)) (kk : ∀ E1 : Wd, E1 o = some (AS (fG X) n (upO g j (some r))) → (∀ j, j ≠ o → E1 j = E j) → V X E1 z (pc + 1) ls st) : V X E z pc ls (.ref (gb (fG X) + r) :: .int (iI i) :: .ref (gb (fG X) + o) :: st) := by
  intro H locs L h1
  obtain ⟨e1, e2⟩ := iI_in hj.1 hj.2.1 hj.2.2
  have h0 : ¬ iI i < 0 := fun q => e1 (Or.inl q)
  have hK := cx.2.2.2.2.1.1
  obtain ⟨r', hr', cellV, g1, g2, g3, -⟩ := h1.1 r _ hr
  have hcls := (hK.1 9 _ rfl).2
  obtain ⟨kA, comp, k1, k2, k3, -⟩ := (hK.2 3 _ rfl).2
  have hcomp : comp = (gD (fG X)).1 9 := Option.some.inj (k3.symm.trans hcls.1)
  subst hcomp
  obtain ⟨kC, hkC, -⟩ := hcls.2
  refine W.aast cx.1 cx.2.1 (h1.1 o _ he) (fun q h => by cases h) (fun h => by cases h) k1 k2 rfl hkC ⟨h0, by show _ < (arrV _ _ _).slots.size; rw [arrV_size, e2]; exact hj.2.1⟩ g1 (fun q h => by rw [g3] at h; cases h) (by rw [g2]; exact hkC) (by rw [g2]; exact va_assign hcls) rfl rfl hd fun H1 e z1 oq => ?_
  refine kk _ upW_s upW_n H1 _ L ⟨h1.1.upd ?_ oq, by rw [z1]; exact h1.2.1, h1.2.2.1.put z1 oq gO_o, h1.2.2.2⟩
  show H1[_]? = some (vp_cell _ _)
  rw [e, e2]
  rw [vp_cell_q, vp_cell_q, arrV_store]
  congr 2
  funext q
  by_cases hq : q = j
  · subst hq
    simp [updV, upO, va_rf]
  · simp [updV, upO, hq]
theorem v_getstatic (cx : Cx X cc ow) {idx : Nat} (i : Nat) (hi : i < 3) (hl : Cond.fieldLink ow idx RX11 (tbN i) "[I" ∈ TB) (hd : decode cc pc = .ok (.getstatic idx, 3)) (kk : V X E z (pc + 3) ls (.ref (gT (fG X) i) :: st)) : V X E z pc ls st := by
  intro H locs L h1
  exact va_gets cx.1 cx.2.1 (cx.2.2.2.2.1.2.1 i hi).1 h1.2.2.1 cx.2.2.1 (cx.2.2.2.1 _ hl) (fun _ h => h) hd (kk H locs L h1)
theorem v_tload (cx : Cx X cc ow) {i : Nat} {a : Int} (j : Nat) (hi : i < 3) (hj : a = (j : Int) ∧ j < 8 ∧ (j : Int) < 2147483648) (hd : decode cc pc = .ok (.iaload, 1)) (kk : V X E z (pc + 1) ls (.int (iI (tbV i j)) :: st)) : V X E z pc ls (.int (iI a) :: .ref (gT (fG X) i) :: st) := by
  intro H locs L h1
  obtain ⟨e1, e2⟩ := iI_in hj.1 hj.2.1 hj.2.2
  exact va_ti cx.1 cx.2.1 (cx.2.2.2.2.1.2.1 i hi).2 h1.2.2.1 e1 (by rw [e2]) hd (kk H locs L h1)
theorem v_tlen (cx : Cx X cc ow) {i : Nat} (hi : i < 3) (hd : decode cc pc = .ok (.arraylength, 1)) (kk : V X E z (pc + 1) ls (.int (iI 8) :: st)) : V X E z pc ls (.ref (gT (fG X) i) :: st) := by
  intro H locs L h1
  exact va_tlen cx.1 cx.2.1 (cx.2.2.2.2.1.2.1 i hi).2 h1.2.2.1 rfl hd (kk H locs L h1)
end Mem
end
section
/-! contracts, entry, return, calls, over the judgement V -/
def rmk (lv mc ms : Nat) : Room := { frames := lv, cells := mc, slots := ms, locals := 33 * lv }
def PreC (G : Gc) (as : List Value) (E : Wd) (n : Nat) : Array Value → State → Prop := fun a U => a = as.toArray ∧ wdH G E U.heap ∧ U.heap.size = gb G + n ∧ KZ G U U.heap
def QI (G : Gc) (P : Int → Wd → Prop) (n : Nat) : Array Value → State → Outcome → State → Prop := fun _ st o t => (∃ (r : Int) (E' : Wd), o = .returned (some (.int (iI r))) ∧ P r E' ∧ wdH G E' t.heap ∧ t.heap.size = gb G + n) ∧ va_F (gO G) st t
def QV (G : Gc) (P : Wd → Prop) (n : Nat) : Array Value → State → Outcome → State → Prop := fun _ st o t => (∃ (E' : Wd), o = .returned none ∧ P E' ∧ wdH G E' t.heap ∧ t.heap.size = gb G + n) ∧ va_F (gO G) st t
/-- a method's contract: it answers an int -/
def CI (l : Launch) (G : Gc) (lv : Nat) (y : MethodName) (cc : ByteArray) (nL : Nat) (ty : FieldType) (as : List Value) (E : Wd) (n mc ms : Nat) (P : Int → Wd → Prop) : Prop :=
  Met l y (Cond.code y cc nL (some ty) :: TB) (rmk lv mc ms) (PreC G as E n) (QI G P (n + mc)) mc ms (gO G)
/-- a method's contract: it answers nothing -/
def CV (l : Launch) (G : Gc) (lv : Nat) (y : MethodName) (cc : ByteArray) (nL : Nat) (as : List Value) (E : Wd) (n mc ms : Nat) (P : Wd → Prop) : Prop :=
  Met l y (Cond.code y cc nL none :: TB) (rmk lv mc ms) (PreC G as E n) (QV G P (n + mc)) mc ms (gO G)
theorem PreC.blind {G : Gc} {as : List Value} {E : Wd} {n : Nat} : FrameBlind (PreC G as E n) := fun a U g mk h => ⟨h.1, h.2.1, h.2.2.1, h.2.2.2.calling⟩
/-! the entry -/
def lsO (as : List Value) (nL : Nat) : List (Option Value) := as.map some ++ List.replicate (nL - as.length) none
theorem lv_args_mem : ∀ (as : List Value) (k i : Nat) (v : Value), (∀ w ∈ as, w.category = 1) → as[i]? = some v → (k + i, v) ∈ lv_args k as := by
  intro as
  induction as with
  | nil => intro k i v _ h; simp at h
  | cons a l ih =>
    intro k i v hc h
    cases i with
    | zero =>
      simp at h
      subst h
      simp [lv_args]
    | succ j =>
      have := ih (k + 1) j v (fun w hw => hc w (List.mem_cons_of_mem _ hw)) (by simpa using h)
      have ha := hc a List.mem_cons_self
      simp only [lv_args]
      rw [ha]
      rw [show k + (j + 1) = k + 1 + j by omega]
      exact List.mem_cons_of_mem _ this
theorem lsH_entry {as : List Value} {nL : Nat} (hc : ∀ w ∈ as, w.category = 1) (hn : as.length ≤ nL) {L : Array Slot} (h : lv_has L nL (lv_args 0 as)) : lsH L (lsO as nL) := by
  have hlen : (lsO as nL).length = nL := by simp [lsO]; omega
  refine ⟨by rw [hlen]; exact h.1, h.2.1, fun q hq => h.2.2 q ?_⟩
  rw [al_mem] at hq
  unfold lsO at hq
  by_cases hl : q.1 < as.length
  · rw [List.getElem?_append_left (by simpa using hl), List.getElem?_map] at hq
    rw [Option.map_eq_some_iff] at hq
    obtain ⟨v, hv, he⟩ := hq
    cases he
    have := lv_args_mem as 0 q.1 q.2 hc hv
    simpa using this
  · rw [List.getElem?_append_right (by simpa using hl)] at hq
    rw [List.getElem?_replicate] at hq
    split at hq <;> cases hq
theorem lg_sl_len : ∀ (as : List Value), (∀ w ∈ as, w.category = 1) → (lg_sl as).length = as.length := by
  intro as
  induction as with
  | nil => intro _; rfl
  | cons a l ih =>
    intro hc
    have ha := hc a List.mem_cons_self
    have := ih (fun w hw => hc w (List.mem_cons_of_mem _ hw))
    simp [lg_sl, ha] at this ⊢
    omega
def RM (X : Fx) (lv mc ms : Nat) : Prop := lv ≤ (fR X).frames ∧ 33 * lv ≤ (fR X).locals ∧ mc ≤ (fR X).cells ∧ ms ≤ (fR X).slots
def RI (X : Fx) (P : Int → Wd → Prop) (n mc ms : Nat) (ty : FieldType) : Prop := fQ X = MQ (fB X) (QI (fG X) P n) (fA X) (fS X) mc ms (gO (fG X)) ∧ (fMe X).sig.returnType = some ty ∧ (fMe X).locks = false
def RV (X : Fx) (P : Wd → Prop) (n mc ms : Nat) : Prop := fQ X = MQ (fB X) (QV (fG X) P n) (fA X) (fS X) mc ms (gO (fG X)) ∧ (fMe X).sig.returnType = none ∧ (fMe X).locks = false
theorem CI.mk {l : Launch} {G : Gc} {lv : Nat} {y : MethodName} {cc : ByteArray} {nL : Nat} {ty : FieldType} {as : List Value} {E : Wd} {n mc ms : Nat} {P : Int → Wd → Prop} (hy : plainFor y = true) (hc : as.all (fun w => w.category == 1) = true) (hn : as.length ≤ nL)
    (body : ∀ X : Fx, fG X = G → fL X = l → Cx X cc y.cls → RM X lv mc ms → RI X P (n + mc) mc ms ty → V X E (n, 0, 0) 0 (lsO as nL) []) : CI l G lv y cc nL ty as E n mc ms P := by
  have hc : ∀ w ∈ as, w.category = 1 := fun w hw => by simpa using List.all_eq_true.mp hc w hw
  refine va_MetF (cc := cc) (maxL := nL) (ret := some ty) hy rfl ?_
  intro p e s m args below meth c s₁ B hml hv
  obtain ⟨rfl, hw, hsz, hkz⟩ := hv
  have hts := atoms_spec (ws := Cond.code y cc nL (some ty) :: TB) B.pre
  have hl := lv_entry as (n := nL) (by rw [lg_sl_len as hc]; exact hn)
  rw [lg_entry_eq]
  have hb := body (p, l, e, rmk lv mc ms, s, m, as.toArray, below, meth, c, G, MQ below (QI G P (n + mc)) as.toArray s mc ms (gO G)) rfl rfl ⟨B.exec, B.bytes, findClass_of_methodNamed B.named, fun w hw => hts w (List.mem_cons_of_mem _ hw), hkz, by rw [hsz]; exact Nat.le_add_right _ _⟩ ⟨Nat.le_refl _, Nat.le_refl _, Nat.le_refl _, Nat.le_refl _⟩ ⟨rfl, B.returns, B.notSynchronized⟩
  exact hb s.heap [] _ ⟨hw, hsz, va_S.rf, lsH_entry hc hn hl, by rw [hml]; simp [lsO]; omega⟩
theorem CV.mk {l : Launch} {G : Gc} {lv : Nat} {y : MethodName} {cc : ByteArray} {nL : Nat} {as : List Value} {E : Wd} {n mc ms : Nat} {P : Wd → Prop} (hy : plainFor y = true) (hc : as.all (fun w => w.category == 1) = true) (hn : as.length ≤ nL)
    (body : ∀ X : Fx, fG X = G → fL X = l → Cx X cc y.cls → RM X lv mc ms → RV X P (n + mc) mc ms → (y.name = "<init>" → (fMe X).name = "<init>") → V X E (n, 0, 0) 0 (lsO as nL) []) : CV l G lv y cc nL as E n mc ms P := by
  have hc : ∀ w ∈ as, w.category = 1 := fun w hw => by simpa using List.all_eq_true.mp hc w hw
  refine va_MetF (cc := cc) (maxL := nL) (ret := none) hy rfl ?_
  intro p e s m args below meth c s₁ B hml hv
  obtain ⟨rfl, hw, hsz, hkz⟩ := hv
  have hts := atoms_spec (ws := Cond.code y cc nL none :: TB) B.pre
  have hl := lv_entry as (n := nL) (by rw [lg_sl_len as hc]; exact hn)
  rw [lg_entry_eq]
  have hb := body (p, l, e, rmk lv mc ms, s, m, as.toArray, below, meth, c, G, MQ below (QV G P (n + mc)) as.toArray s mc ms (gO G)) rfl rfl ⟨B.exec, B.bytes, findClass_of_methodNamed B.named, fun w hw => hts w (List.mem_cons_of_mem _ hw), hkz, by rw [hsz]; exact Nat.le_add_right _ _⟩ ⟨Nat.le_refl _, Nat.le_refl _, Nat.le_refl _, Nat.le_refl _⟩ ⟨rfl, B.returns, B.notSynchronized⟩ (fun h => by rw [← h]; exact (name_of_methodNamed B.named B.method).1)
  exact hb s.heap [] _ ⟨hw, hsz, va_S.rf, lsH_entry hc hn hl, by rw [hml]; simp [lsO]; omega⟩
section Call
variable {X : Fx} {E : Wd} {z : Nat × Nat × Nat} {pc : Nat} {ls ls' : List (Option Value)} {st stk : List Value} {cc : ByteArray} {ow : String}
theorem v_ireturn (cx : Cx X cc ow) {P : Int → Wd → Prop} {n mc ms : Nat} {ty : FieldType} (hI : RI X P n mc ms ty) {r : Int} (hty : narrow ty (.int (iI r)) = .int (iI r)) (hP : P r E) (hd : decode cc pc = .ok (.ireturn, 1)) : V X E (n, mc, ms) pc ls [.int (iI r)] := by
  intro H locs L h1
  obtain ⟨q1, q2, q3⟩ := hI
  show W _ _ _ _ _ _ _ _ _ _ _ _ _ _ (fQ X) _
  rw [q1]
  exact W.zret (ty := ty) cx.1 cx.2.1 q2 hty (fun t ht hW => ⟨⟨r, E, rfl, hP, by rw [ht]; exact h1.1, by rw [ht]; exact h1.2.1⟩, h1.2.2.1.F ht⟩) h1.2.2.1.2.2 hd q3
theorem v_return (cx : Cx X cc ow) {P : Wd → Prop} {n mc ms : Nat} (hI : RV X P n mc ms) (hP : P E) (hd : decode cc pc = .ok (.return_, 1)) : V X E (n, mc, ms) pc ls [] := by
  intro H locs L h1
  obtain ⟨q1, q2, q3⟩ := hI
  show W _ _ _ _ _ _ _ _ _ _ _ _ _ _ (fQ X) _
  rw [q1]
  exact W.vret cx.1 cx.2.1 q2 (fun t ht hW => ⟨⟨E, rfl, hP, by rw [ht]; exact h1.1, by rw [ht]; exact h1.2.1⟩, h1.2.2.1.F ht⟩) h1.2.2.1.2.2 hd q3
/-- what the tables say of a call of an instance method -/
def MLB (ow : String) (idx : Nat) (y : MethodName) (cy : ByteArray) (nLy : Nat) (ret : Option FieldType) (na : Nat) : Prop :=
  Cond.initialized y.cls ∈ TB ∧ Cond.code y cy nLy ret ∈ TB ∧ (y.cls ≠ "java/lang/invoke/MethodHandle" ∧ y.cls ≠ "java/lang/invoke/VarHandle" ∧ (parseMethodDescriptor y.desc).map (fun d => d.parameters.length) = some na) ∧ nLy ≤ 14 ∧ (Cond.methodLink ow idx y ∈ TB ∨ ∃ host, Cond.methodLinkNest ow idx y host ∈ TN)
def MLV (ow : String) (idx : Nat) (y : MethodName) (cy : ByteArray) (nLy : Nat) (ret : Option FieldType) (na : Nat) : Prop :=
  MLB ow idx y cy nLy ret na ∧ Cond.methodLink ow idx y ∈ TB ∧ Cond.instanceMethod y ∈ TB ∧ Cond.selects y.cls y y ∈ TB
def MLS (ow : String) (idx : Nat) (y : MethodName) (cy : ByteArray) (nLy : Nat) (ret : Option FieldType) (na : Nat) : Prop :=
  MLB ow idx y cy nLy ret na ∧ Cond.static y ∈ TB
def MLI (ow : String) (idx : Nat) (y : MethodName) (cy : ByteArray) (nLy : Nat) (na : Nat) : Prop :=
  MLB ow idx y cy nLy none na ∧ y.name = "<init>" ∧ Cond.instanceMethod y ∈ TB
theorem code_good {y : MethodName} {cy : ByteArray} {nLy : Nat} {ret : Option FieldType} (h : Cond.code y cy nLy ret ∈ TB) : GoodIn TB (Cond.code y cy nLy ret :: TB) := fun w hw => by
  rcases List.mem_cons.mp hw with rfl | hw
  · exact TB_good _ h
  · exact TB_good w hw
theorem rm_fit {lv lv' mc ms mc' ms' nL : Nat} (hR : RM X lv mc ms) (h1 : lv' + 1 ≤ lv) (h2 : nL ≤ 14) : (rmk lv' mc' ms').frames + 1 ≤ (fR X).frames ∧ 8 + (nL + 11) + (rmk lv' mc' ms').locals ≤ (fR X).locals := by
  refine ⟨Nat.le_trans h1 hR.1, Nat.le_trans ?_ hR.2.1⟩
  show 8 + (nL + 11) + 33 * lv' ≤ 33 * lv
  omega
theorem rm_room {lv mc ms mc' ms' : Nat} (hR : RM X lv mc ms) (h : z.2.1 + mc' ≤ mc ∧ z.2.2 + ms' ≤ ms) : z.2.1 + mc' ≤ (fR X).cells ∧ z.2.2 + ms' ≤ (fR X).slots := ⟨Nat.le_trans h.1 hR.2.2.1, Nat.le_trans h.2 hR.2.2.2⟩
theorem pre_at (cx : Cx X cc ow) {H : Heap} {locs : List Loc} {L : Array Slot} (h1 : Rd X E z ls H locs L) (as : List Value) : ∀ U : State, U.heap = H → (fS X).WarmedH U.vm → PreC (fG X) as E z.1 as.toArray U := fun U hU hW => ⟨rfl, by rw [hU]; exact h1.1, by rw [hU]; exact h1.2.1, cx.2.2.2.2.1.move hW (fun a ha hn => by rw [hU]; exact h1.2.2.1.2.1 a ha hn)⟩
theorem S_call {G : Gc} {H0 H H' : Heap} {locs Lx : List Loc} (h : va_S (gO G) H0 H locs) (hz : H.size ≤ H'.size) (hk : ∀ q : Nat, q < H.size → ¬ gO G q → H'[q]? = H[q]?) (hL : ∀ q ∈ Lx, gO G q.base) : va_S (gO G) H0 H' (locs ++ Lx) :=
  ⟨Nat.le_trans h.1 hz, fun q h1 h2 => (hk q (Nat.lt_of_lt_of_le h1 h.1) h2).trans (h.2.1 q h1 h2), fun q hq => (List.mem_append.mp hq).elim (h.2.2 q) (hL q)⟩
/-- behind a run that answers an int -/
theorem after_I {as : List Value} {P : Int → Wd → Prop} {mc ms : Nat} {H : Heap} {locs : List Loc} {L : Array Slot} (h1 : Rd X E z ls H locs L)
    (hr : va_Run (fP X) (fL X) (fE X) (fR X) (fS X) (fM X) (fA X) (fB X) (fMe X) (fC X) H locs z.2.1 z.2.2 mc ms (F0 (fM X) pc L stk) st (QI (fG X) P (z.1 + mc) as.toArray) (gO (fG X)))
    (kk : ∀ (r : Int) (E' : Wd), P r E' → V X E' (z.1 + mc, z.2.1 + mc, z.2.2 + ms) (pc + 3) ls (.int (iI r) :: st)) : WX X H locs z pc L stk := by
  intro T hT X0
  obtain ⟨v, st₀, t, T', Lx, h0, X', hL, e1, e2, ⟨⟨r, E', hv, hp, hw, hsz⟩, hz, hk⟩, stp⟩ := hr T hT X0
  cases hv
  rw [h0] at hz hk
  obtain ⟨t2, a1, b1⟩ := kk r E' hp T'.heap (locs ++ Lx) L ⟨by rw [e1]; exact hw, by rw [e1]; exact hsz, S_call h1.2.2.1 (by rw [e1]; exact hz) (fun q g1 g2 => by rw [e1]; exact hk q g1 g2) hL, h1.2.2.2⟩ T' rfl X'
  exact ⟨t2, stp t2 a1, b1⟩
theorem after_V {as : List Value} {P : Wd → Prop} {mc ms : Nat} {H : Heap} {locs : List Loc} {L : Array Slot} (h1 : Rd X E z ls H locs L)
    (hr : va_Run (fP X) (fL X) (fE X) (fR X) (fS X) (fM X) (fA X) (fB X) (fMe X) (fC X) H locs z.2.1 z.2.2 mc ms (F0 (fM X) pc L stk) st (QV (fG X) P (z.1 + mc) as.toArray) (gO (fG X)))
    (kk : ∀ (E' : Wd), P E' → V X E' (z.1 + mc, z.2.1 + mc, z.2.2 + ms) (pc + 3) ls st) : WX X H locs z pc L stk := by
  intro T hT X0
  obtain ⟨v, st₀, t, T', Lx, h0, X', hL, e1, e2, ⟨⟨E', hv, hp, hw, hsz⟩, hz, hk⟩, stp⟩ := hr T hT X0
  cases hv
  rw [h0] at hz hk
  obtain ⟨t2, a1, b1⟩ := kk E' hp T'.heap (locs ++ Lx) L ⟨by rw [e1]; exact hw, by rw [e1]; exact hsz, S_call h1.2.2.1 (by rw [e1]; exact hz) (fun q g1 g2 => by rw [e1]; exact hk q g1 g2) hL, h1.2.2.2⟩ T' rfl X'
  exact ⟨t2, stp t2 a1, b1⟩
theorem fix_of (cx : Cx X cc ow) (hl : ls.length = (fC X).maxLocals) : CallFix (fP X) (fM X) (fC X) cc ls.length (fS X) (fA X) TB ow := ⟨cx.1, cx.2.1, hl.symm, cx.2.2.1, cx.2.2.2.1⟩
theorem v_runV (cx : Cx X cc ow) {lv mc ms lv' mc' ms' nLy idx n o ci : Nat} {y : MethodName} {cy : ByteArray} {ret : Option FieldType} {as : List Value} {Qc : Array Value → State → Outcome → State → Prop} {fs : List Value} {qc : vw_C} (hR : RM X lv mc ms) {H : Heap} {locs : List Loc} {L : Array Slot} (h1 : Rd X E z ls H locs L)
    (hM : Met (fL X) y (Cond.code y cy nLy ret :: TB) (rmk lv' mc' ms') (PreC (fG X) (.ref (gb (fG X) + o) :: as) E z.1) Qc mc' ms' (gO (fG X))) (hl : MLV ow idx y cy nLy ret n) (hn : as.length = n) (hlv : lv' + 1 ≤ lv) (he : E o = some (.inr (ci, fs))) (hq : vwCl[ci]? = some qc) (hqc : qc.1 = y.cls)
    (hstk : stk = as.reverse ++ .ref (gb (fG X) + o) :: st) (hcat : (st.map fun v => v.category).sum ≤ 8) (hroom : z.2.1 + mc' ≤ mc ∧ z.2.2 + ms' ≤ ms) (hd : decode cc pc = .ok (.invokevirtual idx, 3)) :
    va_Run (fP X) (fL X) (fE X) (fR X) (fS X) (fM X) (fA X) (fB X) (fMe X) (fC X) H locs z.2.1 z.2.2 mc' ms' (F0 (fM X) pc L stk) st (Qc (Value.ref (gb (fG X) + o) :: as).toArray) (gO (fG X)) := by
  obtain ⟨⟨b1, b2, b3, b4, -⟩, b5, b6, b7⟩ := hl
  have ht := cx.2.2.2.1
  subst hstk
  replace hroom := rm_room hR hroom
  have hp := h1.1 o _ he
  refine va_runV (C := y.cls) (Ts := TB) (n := n) (fix_of cx h1.2.2.2.2) hM ⟨callB_of n ht (code_good b2) rfl rfl rfl (ht _ b1) (ht _ b5) b3 (rm_fit hR hlv b4), ht _ b6, ht _ b7⟩ ⟨PreC.blind, ?_, pre_at cx h1 _⟩ rfl hn h1.2.2.2.1.1 rfl (lv_room hcat) hd hroom
  have := va_recv cx.2.2.2.2.1.1 (h1.1.one he) hq (q0 := 0) rfl
  rw [hqc] at this
  exact this
theorem va_nwTN (cx : Cx X cc ow) {w : Cond} (h : w ∈ TN) : va_Nw w (fS X) := cx.2.2.2.2.1.2.2.1 w h
theorem v_runS (cx : Cx X cc ow) {lv mc ms lv' mc' ms' nLy idx n : Nat} {y : MethodName} {cy : ByteArray} {ret : Option FieldType} {as : List Value} {Qc : Array Value → State → Outcome → State → Prop} (hR : RM X lv mc ms) {H : Heap} {locs : List Loc} {L : Array Slot} (h1 : Rd X E z ls H locs L)
    (hM : Met (fL X) y (Cond.code y cy nLy ret :: TB) (rmk lv' mc' ms') (PreC (fG X) as E z.1) Qc mc' ms' (gO (fG X))) (hl : MLS ow idx y cy nLy ret n) (hn : as.length = n) (hlv : lv' + 1 ≤ lv)
    (hstk : stk = as.reverse ++ st) (hcat : (st.map fun v => v.category).sum ≤ 8) (hroom : z.2.1 + mc' ≤ mc ∧ z.2.2 + ms' ≤ ms) (hd : decode cc pc = .ok (.invokestatic idx, 3)) :
    va_Run (fP X) (fL X) (fE X) (fR X) (fS X) (fM X) (fA X) (fB X) (fMe X) (fC X) H locs z.2.1 z.2.2 mc' ms' (F0 (fM X) pc L stk) st (Qc as.toArray) (gO (fG X)) := by
  obtain ⟨⟨b1, b2, b3, b4, b5⟩, b6⟩ := hl
  have ht := cx.2.2.2.1
  subst hstk
  replace hroom := rm_room hR hroom
  rcases b5 with b5 | ⟨host, b5⟩
  · exact va_runS (Ts := TB) (n := n) (fix_of cx h1.2.2.2.2) hM ⟨callB_of n ht (code_good b2) rfl rfl rfl (ht _ b1) (ht _ b5) b3 (rm_fit hR hlv b4), ht _ b6⟩ ⟨PreC.blind, pre_at cx h1 _⟩ rfl hn h1.2.2.2.1.1 rfl (lv_room hcat) hd hroom
  · exact va_runSN (Ts := TB) (n := n) (fix_of cx h1.2.2.2.2) hM ⟨va_cnB n ht (code_good b2) rfl rfl rfl (va_nwTN cx b5) (ht _ b1) b3 (rm_fit hR hlv b4), ht _ b6, trivial⟩ ⟨PreC.blind, pre_at cx h1 _⟩ rfl hn h1.2.2.2.1.1 rfl (lv_room hcat) hd hroom
theorem v_runI (cx : Cx X cc ow) {lv mc ms lv' mc' ms' nLy idx n a : Nat} {y : MethodName} {cy : ByteArray} {as : List Value} {Qc : Array Value → State → Outcome → State → Prop} (hR : RM X lv mc ms) {H : Heap} {locs : List Loc} {L : Array Slot} (h1 : Rd X E z ls H locs L)
    (hM : Met (fL X) y (Cond.code y cy nLy none :: TB) (rmk lv' mc' ms') (PreC (fG X) (.ref a :: as) E z.1) Qc mc' ms' (gO (fG X))) (hl : MLI ow idx y cy nLy n) (hn : as.length = n) (hlv : lv' + 1 ≤ lv)
    (hstk : stk = as.reverse ++ .ref a :: st) (hcat : (st.map fun v => v.category).sum ≤ 8) (hroom : z.2.1 + mc' ≤ mc ∧ z.2.2 + ms' ≤ ms) (hd : decode cc pc = .ok (.invokespecial idx, 3)) :
    va_Run (fP X) (fL X) (fE X) (fR X) (fS X) (fM X) (fA X) (fB X) (fMe X) (fC X) H locs z.2.1 z.2.2 mc' ms' (F0 (fM X) pc L stk) st (Qc (Value.ref a :: as).toArray) (gO (fG X)) := by
  obtain ⟨⟨b1, b2, b3, b4, b5⟩, b6, b7⟩ := hl
  have ht := cx.2.2.2.1
  subst hstk
  replace hroom := rm_room hR hroom
  rcases b5 with b5 | ⟨host, b5⟩
  · exact va_runI (Ts := TB) (n := n) (fix_of cx h1.2.2.2.2) hM ⟨callB_of n ht (code_good b2) rfl rfl rfl (ht _ b1) (ht _ b5) b3 (rm_fit hR hlv b4), b6, ht _ b7⟩ ⟨PreC.blind, pre_at cx h1 _⟩ rfl hn h1.2.2.2.1.1 rfl (lv_room hcat) hd hroom
  · exact va_runIN (Ts := TB) (n := n) (fix_of cx h1.2.2.2.2) hM ⟨va_cnB n ht (code_good b2) rfl rfl rfl (va_nwTN cx b5) (ht _ b1) b3 (rm_fit hR hlv b4), b6, ht _ b7⟩ ⟨PreC.blind, pre_at cx h1 _⟩ rfl hn h1.2.2.2.1.1 rfl (lv_room hcat) hd hroom
theorem v_callVI (cx : Cx X cc ow) {lv mc ms lv' nLy idx o ci : Nat} {y : MethodName} {cy : ByteArray} {ty : FieldType} {as : List Value} {P : Int → Wd → Prop} {fs : List Value} {qc : vw_C} (hR : RM X lv mc ms) (hM : CI (fL X) (fG X) lv' y cy nLy ty (.ref (gb (fG X) + o) :: as) E z.1 0 0 P) (hl : MLV ow idx y cy nLy (some ty) as.length) (hlv : lv' + 1 ≤ lv) (he : E o = some (.inr (ci, fs))) (hq : vwCl[ci]? = some qc) (hqc : qc.1 = y.cls)
    (hstk : stk = as.reverse ++ .ref (gb (fG X) + o) :: st) (hcat : (st.map fun v => v.category).sum ≤ 8) (hroom : z.2.1 ≤ mc ∧ z.2.2 ≤ ms) (hd : decode cc pc = .ok (.invokevirtual idx, 3)) (kk : ∀ (r : Int) (E' : Wd), P r E' → V X E' z (pc + 3) ls (.int (iI r) :: st)) : V X E z pc ls stk :=
  fun H locs L h1 => after_I h1 (v_runV cx hR h1 hM hl rfl hlv he hq hqc hstk hcat hroom hd) kk
theorem v_callVV (cx : Cx X cc ow) {lv mc ms lv' nLy idx o ci : Nat} {y : MethodName} {cy : ByteArray} {as : List Value} {P : Wd → Prop} {fs : List Value} {qc : vw_C} (hR : RM X lv mc ms) (hM : CV (fL X) (fG X) lv' y cy nLy (.ref (gb (fG X) + o) :: as) E z.1 0 0 P) (hl : MLV ow idx y cy nLy none as.length) (hlv : lv' + 1 ≤ lv) (he : E o = some (.inr (ci, fs))) (hq : vwCl[ci]? = some qc) (hqc : qc.1 = y.cls)
    (hstk : stk = as.reverse ++ .ref (gb (fG X) + o) :: st) (hcat : (st.map fun v => v.category).sum ≤ 8) (hroom : z.2.1 ≤ mc ∧ z.2.2 ≤ ms) (hd : decode cc pc = .ok (.invokevirtual idx, 3)) (kk : ∀ (E' : Wd), P E' → V X E' z (pc + 3) ls st) : V X E z pc ls stk :=
  fun H locs L h1 => after_V h1 (v_runV cx hR h1 hM hl rfl hlv he hq hqc hstk hcat hroom hd) kk
theorem v_callSI (cx : Cx X cc ow) {lv mc ms lv' nLy idx : Nat} {y : MethodName} {cy : ByteArray} {ty : FieldType} {as : List Value} {P : Int → Wd → Prop} (hR : RM X lv mc ms) (hM : CI (fL X) (fG X) lv' y cy nLy ty as E z.1 0 0 P) (hl : MLS ow idx y cy nLy (some ty) as.length) (hlv : lv' + 1 ≤ lv)
    (hstk : stk = as.reverse ++ st) (hcat : (st.map fun v => v.category).sum ≤ 8) (hroom : z.2.1 ≤ mc ∧ z.2.2 ≤ ms) (hd : decode cc pc = .ok (.invokestatic idx, 3)) (kk : ∀ (r : Int) (E' : Wd), P r E' → V X E' z (pc + 3) ls (.int (iI r) :: st)) : V X E z pc ls stk :=
  fun H locs L h1 => after_I h1 (v_runS cx hR h1 hM hl rfl hlv hstk hcat hroom hd) kk
theorem v_callSV (cx : Cx X cc ow) {lv mc ms lv' nLy idx : Nat} {y : MethodName} {cy : ByteArray} {as : List Value} {P : Wd → Prop} (hR : RM X lv mc ms) (hM : CV (fL X) (fG X) lv' y cy nLy as E z.1 0 0 P) (hl : MLS ow idx y cy nLy none as.length) (hlv : lv' + 1 ≤ lv)
    (hstk : stk = as.reverse ++ st) (hcat : (st.map fun v => v.category).sum ≤ 8) (hroom : z.2.1 ≤ mc ∧ z.2.2 ≤ ms) (hd : decode cc pc = .ok (.invokestatic idx, 3)) (kk : ∀ (E' : Wd), P E' → V X E' z (pc + 3) ls st) : V X E z pc ls stk :=
  fun H locs L h1 => after_V h1 (v_runS cx hR h1 hM hl rfl hlv hstk hcat hroom hd) kk
theorem v_callK (cx : Cx X cc ow) {lv mc ms lv' mc' ms' nLy idx a : Nat} {y : MethodName} {cy : ByteArray} {as : List Value} {P : Wd → Prop} (hR : RM X lv mc ms) (hM : CV (fL X) (fG X) lv' y cy nLy (.ref a :: as) E z.1 mc' ms' P) (hl : MLI ow idx y cy nLy as.length) (hlv : lv' + 1 ≤ lv)
    (hstk : stk = as.reverse ++ .ref a :: st) (hcat : (st.map fun v => v.category).sum ≤ 8) (hroom : z.2.1 + mc' ≤ mc ∧ z.2.2 + ms' ≤ ms) (hd : decode cc pc = .ok (.invokespecial idx, 3)) (kk : ∀ (E' : Wd), P E' → V X E' (z.1 + mc', z.2.1 + mc', z.2.2 + ms') (pc + 3) ls st) : V X E z pc ls stk :=
  fun H locs L h1 => after_V h1 (v_runI cx hR h1 hM hl rfl hlv hstk hcat hroom hd) kk
end Call
end
section
set_option maxRecDepth 100000 in
theorem flX8_9 : FL RX8 9 8 0 := ⟨_, _, _, rfl, by decide, tb_in8, tbm 44 (by decide +kernel) rfl⟩
set_option maxRecDepth 100000 in
theorem fpX8_9 : FP RX8 9 8 0 true (.array .int) := ⟨_, _, _, tyX8, rfl, by decide, tb_in8, tbm 44 (by decide +kernel) rfl, tyX8_ok, nmX8, rfl, rfl, fun _ => rfl⟩
set_option maxRecDepth 100000 in
theorem flX11_76 : FL RX11 76 8 0 := ⟨_, _, _, rfl, by decide, tb_in8, tbm 45 (by decide +kernel) rfl⟩
set_option maxRecDepth 100000 in
theorem flX8_15 : FL RX8 15 8 1 := ⟨_, _, _, rfl, by decide, tb_in8, tbm 46 (by decide +kernel) rfl⟩
set_option maxRecDepth 100000 in
theorem fpX8_15 : FP RX8 15 8 1 true (.array .int) := ⟨_, _, _, tyX8, rfl, by decide, tb_in8, tbm 46 (by decide +kernel) rfl, tyX8_ok, nmX8, rfl, rfl, fun _ => rfl⟩
set_option maxRecDepth 100000 in
theorem flX11_84 : FL RX11 84 8 1 := ⟨_, _, _, rfl, by decide, tb_in8, tbm 47 (by decide +kernel) rfl⟩
set_option maxRecDepth 100000 in
theorem flX8_18 : FL RX8 18 8 2 := ⟨_, _, _, rfl, by decide, tb_in8, tbm 48 (by decide +kernel) rfl⟩
set_option maxRecDepth 100000 in
theorem fpX8_18 : FP RX8 18 8 2 true (.array .int) := ⟨_, _, _, tyX8, rfl, by decide, tb_in8, tbm 48 (by decide +kernel) rfl, tyX8_ok, nmX8, rfl, rfl, fun _ => rfl⟩
set_option maxRecDepth 100000 in
theorem flX11_87 : FL RX11 87 8 2 := ⟨_, _, _, rfl, by decide, tb_in8, tbm 49 (by decide +kernel) rfl⟩
set_option maxRecDepth 100000 in
theorem flX8_25 : FL RX8 25 8 3 := ⟨_, _, _, rfl, by decide, tb_in8, tbm 50 (by decide +kernel) rfl⟩
set_option maxRecDepth 100000 in
theorem fpX8_25 : FP RX8 25 8 3 false (.int) := ⟨_, _, _, tyX8, rfl, by decide, tb_in8, tbm 50 (by decide +kernel) rfl, tyX8_ok, nmX8, rfl, rfl, fun _ => rfl⟩
set_option maxRecDepth 100000 in
theorem flX11_59 : FL RX11 59 8 3 := ⟨_, _, _, rfl, by decide, tb_in8, tbm 51 (by decide +kernel) rfl⟩
set_option maxRecDepth 100000 in
theorem fpX11_59 : FP RX11 59 8 3 false (.int) := ⟨_, _, _, tyX8, rfl, by decide, tb_in8, tbm 51 (by decide +kernel) rfl, tyX8_ok, nmX8, rfl, rfl, fun h => nomatch h⟩
set_option maxRecDepth 100000 in
theorem flX2_7 : FL RX2 7 2 0 := ⟨_, _, _, rfl, by decide, tb_in2, tbm 68 (by decide +kernel) rfl⟩
set_option maxRecDepth 100000 in
theorem fpX2_7 : FP RX2 7 2 0 false (.int) := ⟨_, _, _, tyX2, rfl, by decide, tb_in2, tbm 68 (by decide +kernel) rfl, tyX2_ok, nmX2, rfl, rfl, fun _ => rfl⟩
set_option maxRecDepth 100000 in
theorem flX11_156 : FL RX11 156 2 0 := ⟨_, _, _, rfl, by decide, tb_in2, tbm 69 (by decide +kernel) rfl⟩
set_option maxRecDepth 100000 in
theorem fpX11_156 : FP RX11 156 2 0 false (.int) := ⟨_, _, _, tyX2, rfl, by decide, tb_in2, tbm 69 (by decide +kernel) rfl, tyX2_ok, nmX2, rfl, rfl, fun h => nomatch h⟩
set_option maxRecDepth 100000 in
theorem flX2_13 : FL RX2 13 2 1 := ⟨_, _, _, rfl, by decide, tb_in2, tbm 70 (by decide +kernel) rfl⟩
set_option maxRecDepth 100000 in
theorem fpX2_13 : FP RX2 13 2 1 false (.int) := ⟨_, _, _, tyX2, rfl, by decide, tb_in2, tbm 70 (by decide +kernel) rfl, tyX2_ok, nmX2, rfl, rfl, fun _ => rfl⟩
set_option maxRecDepth 100000 in
theorem flX9_134 : FL RX9 134 2 1 := ⟨_, _, _, rfl, by decide, tb_in2, tbm 71 (by decide +kernel) rfl⟩
set_option maxRecDepth 100000 in
theorem fpX9_134 : FP RX9 134 2 1 false (.int) := ⟨_, _, _, tyX2, rfl, by decide, tb_in2, tbm 71 (by decide +kernel) rfl, tyX2_ok, nmX2, rfl, rfl, fun h => nomatch h⟩
set_option maxRecDepth 100000 in
theorem flX0_9 : FL RX0 9 0 0 := ⟨_, _, _, rfl, by decide, tb_in0, tbm 83 (by decide +kernel) rfl⟩
set_option maxRecDepth 100000 in
theorem fpX0_9 : FP RX0 9 0 0 false (.int) := ⟨_, _, _, tyX0, rfl, by decide, tb_in0, tbm 83 (by decide +kernel) rfl, tyX0_ok, nmX0, rfl, rfl, fun _ => rfl⟩
set_option maxRecDepth 100000 in
theorem flX11_165 : FL RX11 165 0 0 := ⟨_, _, _, rfl, by decide, tb_in0, tbm 84 (by decide +kernel) rfl⟩
set_option maxRecDepth 100000 in
theorem fpX11_165 : FP RX11 165 0 0 false (.int) := ⟨_, _, _, tyX0, rfl, by decide, tb_in0, tbm 84 (by decide +kernel) rfl, tyX0_ok, nmX0, rfl, rfl, fun h => nomatch h⟩
set_option maxRecDepth 100000 in
theorem flX0_15 : FL RX0 15 0 1 := ⟨_, _, _, rfl, by decide, tb_in0, tbm 85 (by decide +kernel) rfl⟩
set_option maxRecDepth 100000 in
theorem fpX0_15 : FP RX0 15 0 1 false (.int) := ⟨_, _, _, tyX0, rfl, by decide, tb_in0, tbm 85 (by decide +kernel) rfl, tyX0_ok, nmX0, rfl, rfl, fun _ => rfl⟩
set_option maxRecDepth 100000 in
theorem flX11_168 : FL RX11 168 0 1 := ⟨_, _, _, rfl, by decide, tb_in0, tbm 86 (by decide +kernel) rfl⟩
set_option maxRecDepth 100000 in
theorem fpX11_168 : FP RX11 168 0 1 false (.int) := ⟨_, _, _, tyX0, rfl, by decide, tb_in0, tbm 86 (by decide +kernel) rfl, tyX0_ok, nmX0, rfl, rfl, fun h => nomatch h⟩
set_option maxRecDepth 100000 in
theorem flX0_18 : FL RX0 18 0 2 := ⟨_, _, _, rfl, by decide, tb_in0, tbm 87 (by decide +kernel) rfl⟩
set_option maxRecDepth 100000 in
theorem fpX0_18 : FP RX0 18 0 2 false (.int) := ⟨_, _, _, tyX0, rfl, by decide, tb_in0, tbm 87 (by decide +kernel) rfl, tyX0_ok, nmX0, rfl, rfl, fun _ => rfl⟩
set_option maxRecDepth 100000 in
theorem flX9_125 : FL RX9 125 0 2 := ⟨_, _, _, rfl, by decide, tb_in0, tbm 88 (by decide +kernel) rfl⟩
set_option maxRecDepth 100000 in
theorem fpX9_125 : FP RX9 125 0 2 false (.int) := ⟨_, _, _, tyX0, rfl, by decide, tb_in0, tbm 88 (by decide +kernel) rfl, tyX0_ok, nmX0, rfl, rfl, fun h => nomatch h⟩
set_option maxRecDepth 100000 in
theorem flX0_21 : FL RX0 21 0 3 := ⟨_, _, _, rfl, by decide, tb_in0, tbm 89 (by decide +kernel) rfl⟩
set_option maxRecDepth 100000 in
theorem fpX0_21 : FP RX0 21 0 3 false (.int) := ⟨_, _, _, tyX0, rfl, by decide, tb_in0, tbm 89 (by decide +kernel) rfl, tyX0_ok, nmX0, rfl, rfl, fun _ => rfl⟩
set_option maxRecDepth 100000 in
theorem flX6_66 : FL RX6 66 0 3 := ⟨_, _, _, rfl, by decide, tb_in0, tbm 90 (by decide +kernel) rfl⟩
set_option maxRecDepth 100000 in
theorem fpX6_66 : FP RX6 66 0 3 false (.int) := ⟨_, _, _, tyX0, rfl, by decide, tb_in0, tbm 90 (by decide +kernel) rfl, tyX0_ok, nmX0, rfl, rfl, fun h => nomatch h⟩
set_option maxRecDepth 100000 in
theorem flX9_128 : FL RX9 128 0 3 := ⟨_, _, _, rfl, by decide, tb_in0, tbm 91 (by decide +kernel) rfl⟩
set_option maxRecDepth 100000 in
theorem fpX9_128 : FP RX9 128 0 3 false (.int) := ⟨_, _, _, tyX0, rfl, by decide, tb_in0, tbm 91 (by decide +kernel) rfl, tyX0_ok, nmX0, rfl, rfl, fun h => nomatch h⟩
set_option maxRecDepth 100000 in
theorem flX0_24 : FL RX0 24 0 4 := ⟨_, _, _, rfl, by decide, tb_in0, tbm 92 (by decide +kernel) rfl⟩
set_option maxRecDepth 100000 in
theorem fpX0_24 : FP RX0 24 0 4 false (.int) := ⟨_, _, _, tyX0, rfl, by decide, tb_in0, tbm 92 (by decide +kernel) rfl, tyX0_ok, nmX0, rfl, rfl, fun _ => rfl⟩
set_option maxRecDepth 100000 in
theorem flX6_61 : FL RX6 61 0 4 := ⟨_, _, _, rfl, by decide, tb_in0, tbm 93 (by decide +kernel) rfl⟩
set_option maxRecDepth 100000 in
theorem fpX6_61 : FP RX6 61 0 4 false (.int) := ⟨_, _, _, tyX0, rfl, by decide, tb_in0, tbm 93 (by decide +kernel) rfl, tyX0_ok, nmX0, rfl, rfl, fun h => nomatch h⟩
set_option maxRecDepth 100000 in
theorem flX9_131 : FL RX9 131 0 4 := ⟨_, _, _, rfl, by decide, tb_in0, tbm 94 (by decide +kernel) rfl⟩
set_option maxRecDepth 100000 in
theorem fpX9_131 : FP RX9 131 0 4 false (.int) := ⟨_, _, _, tyX0, rfl, by decide, tb_in0, tbm 94 (by decide +kernel) rfl, tyX0_ok, nmX0, rfl, rfl, fun h => nomatch h⟩
set_option maxRecDepth 100000 in
theorem flX0_27 : FL RX0 27 0 5 := ⟨_, _, _, rfl, by decide, tb_in0, tbm 95 (by decide +kernel) rfl⟩
set_option maxRecDepth 100000 in
theorem fpX0_27 : FP RX0 27 0 5 false (.int) := ⟨_, _, _, tyX0, rfl, by decide, tb_in0, tbm 95 (by decide +kernel) rfl, tyX0_ok, nmX0, rfl, rfl, fun _ => rfl⟩
set_option maxRecDepth 100000 in
theorem flX9_137 : FL RX9 137 0 5 := ⟨_, _, _, rfl, by decide, tb_in0, tbm 96 (by decide +kernel) rfl⟩
set_option maxRecDepth 100000 in
theorem fpX9_137 : FP RX9 137 0 5 false (.int) := ⟨_, _, _, tyX0, rfl, by decide, tb_in0, tbm 96 (by decide +kernel) rfl, tyX0_ok, nmX0, rfl, rfl, fun h => nomatch h⟩
set_option maxRecDepth 100000 in
theorem flX1_13 : FL RX1 13 1 0 := ⟨_, _, _, rfl, by decide, tb_in1, tbm 118 (by decide +kernel) rfl⟩
set_option maxRecDepth 100000 in
theorem fpX1_13 : FP RX1 13 1 0 false (.int) := ⟨_, _, _, tyX1, rfl, by decide, tb_in1, tbm 118 (by decide +kernel) rfl, tyX1_ok, nmX1, rfl, rfl, fun _ => rfl⟩
set_option maxRecDepth 100000 in
theorem flX11_118 : FL RX11 118 1 0 := ⟨_, _, _, rfl, by decide, tb_in1, tbm 119 (by decide +kernel) rfl⟩
set_option maxRecDepth 100000 in
theorem fpX11_118 : FP RX11 118 1 0 false (.int) := ⟨_, _, _, tyX1, rfl, by decide, tb_in1, tbm 119 (by decide +kernel) rfl, tyX1_ok, nmX1, rfl, rfl, fun h => nomatch h⟩
set_option maxRecDepth 100000 in
theorem flX1_19 : FL RX1 19 1 1 := ⟨_, _, _, rfl, by decide, tb_in1, tbm 120 (by decide +kernel) rfl⟩
set_option maxRecDepth 100000 in
theorem fpX1_19 : FP RX1 19 1 1 false (.int) := ⟨_, _, _, tyX1, rfl, by decide, tb_in1, tbm 120 (by decide +kernel) rfl, tyX1_ok, nmX1, rfl, rfl, fun _ => rfl⟩
set_option maxRecDepth 100000 in
theorem flX9_118 : FL RX9 118 1 1 := ⟨_, _, _, rfl, by decide, tb_in1, tbm 121 (by decide +kernel) rfl⟩
set_option maxRecDepth 100000 in
theorem fpX9_118 : FP RX9 118 1 1 false (.int) := ⟨_, _, _, tyX1, rfl, by decide, tb_in1, tbm 121 (by decide +kernel) rfl, tyX1_ok, nmX1, rfl, rfl, fun h => nomatch h⟩
set_option maxRecDepth 100000 in
theorem flX11_171 : FL RX11 171 1 1 := ⟨_, _, _, rfl, by decide, tb_in1, tbm 122 (by decide +kernel) rfl⟩
set_option maxRecDepth 100000 in
theorem fpX11_171 : FP RX11 171 1 1 false (.int) := ⟨_, _, _, tyX1, rfl, by decide, tb_in1, tbm 122 (by decide +kernel) rfl, tyX1_ok, nmX1, rfl, rfl, fun h => nomatch h⟩
set_option maxRecDepth 100000 in
theorem flX3_9 : FL RX3 9 3 0 := ⟨_, _, _, rfl, by decide, tb_in3, tbm 134 (by decide +kernel) rfl⟩
set_option maxRecDepth 100000 in
theorem fpX3_9 : FP RX3 9 3 0 true (.array .int) := ⟨_, _, _, tyX3, rfl, by decide, tb_in3, tbm 134 (by decide +kernel) rfl, tyX3_ok, nmX3, rfl, rfl, fun _ => rfl⟩
set_option maxRecDepth 100000 in
theorem flX3_15 : FL RX3 15 3 1 := ⟨_, _, _, rfl, by decide, tb_in3, tbm 135 (by decide +kernel) rfl⟩
set_option maxRecDepth 100000 in
theorem fpX3_15 : FP RX3 15 3 1 true (.array .int) := ⟨_, _, _, tyX3, rfl, by decide, tb_in3, tbm 135 (by decide +kernel) rfl, tyX3_ok, nmX3, rfl, rfl, fun _ => rfl⟩
set_option maxRecDepth 100000 in
theorem flX3_22 : FL RX3 22 3 2 := ⟨_, _, _, rfl, by decide, tb_in3, tbm 136 (by decide +kernel) rfl⟩
set_option maxRecDepth 100000 in
theorem fpX3_22 : FP RX3 22 3 2 false (.int) := ⟨_, _, _, tyX3, rfl, by decide, tb_in3, tbm 136 (by decide +kernel) rfl, tyX3_ok, nmX3, rfl, rfl, fun _ => rfl⟩
set_option maxRecDepth 100000 in
theorem flX11_127 : FL RX11 127 3 2 := ⟨_, _, _, rfl, by decide, tb_in3, tbm 137 (by decide +kernel) rfl⟩
set_option maxRecDepth 100000 in
theorem fpX11_127 : FP RX11 127 3 2 false (.int) := ⟨_, _, _, tyX3, rfl, by decide, tb_in3, tbm 137 (by decide +kernel) rfl, tyX3_ok, nmX3, rfl, rfl, fun h => nomatch h⟩
set_option maxRecDepth 100000 in
theorem flX5_9 : FL RX5 9 5 0 := ⟨_, _, _, rfl, by decide, tb_in5, tbm 151 (by decide +kernel) rfl⟩
set_option maxRecDepth 100000 in
theorem fpX5_9 : FP RX5 9 5 0 true (.array .int) := ⟨_, _, _, tyX5, rfl, by decide, tb_in5, tbm 151 (by decide +kernel) rfl, tyX5_ok, nmX5, rfl, rfl, fun _ => rfl⟩
set_option maxRecDepth 100000 in
theorem flX11_188 : FL RX11 188 5 0 := ⟨_, _, _, rfl, by decide, tb_in5, tbm 152 (by decide +kernel) rfl⟩
set_option maxRecDepth 100000 in
theorem flX5_15 : FL RX5 15 5 1 := ⟨_, _, _, rfl, by decide, tb_in5, tbm 153 (by decide +kernel) rfl⟩
set_option maxRecDepth 100000 in
theorem fpX5_15 : FP RX5 15 5 1 true (.array .int) := ⟨_, _, _, tyX5, rfl, by decide, tb_in5, tbm 153 (by decide +kernel) rfl, tyX5_ok, nmX5, rfl, rfl, fun _ => rfl⟩
set_option maxRecDepth 100000 in
theorem flX11_191 : FL RX11 191 5 1 := ⟨_, _, _, rfl, by decide, tb_in5, tbm 154 (by decide +kernel) rfl⟩
set_option maxRecDepth 100000 in
theorem flX5_18 : FL RX5 18 5 2 := ⟨_, _, _, rfl, by decide, tb_in5, tbm 155 (by decide +kernel) rfl⟩
set_option maxRecDepth 100000 in
theorem fpX5_18 : FP RX5 18 5 2 true (.array .int) := ⟨_, _, _, tyX5, rfl, by decide, tb_in5, tbm 155 (by decide +kernel) rfl, tyX5_ok, nmX5, rfl, rfl, fun _ => rfl⟩
set_option maxRecDepth 100000 in
theorem flX11_194 : FL RX11 194 5 2 := ⟨_, _, _, rfl, by decide, tb_in5, tbm 156 (by decide +kernel) rfl⟩
set_option maxRecDepth 100000 in
theorem flX5_25 : FL RX5 25 5 3 := ⟨_, _, _, rfl, by decide, tb_in5, tbm 157 (by decide +kernel) rfl⟩
set_option maxRecDepth 100000 in
theorem fpX5_25 : FP RX5 25 5 3 false (.int) := ⟨_, _, _, tyX5, rfl, by decide, tb_in5, tbm 157 (by decide +kernel) rfl, tyX5_ok, nmX5, rfl, rfl, fun _ => rfl⟩
set_option maxRecDepth 100000 in
theorem flX11_146 : FL RX11 146 5 3 := ⟨_, _, _, rfl, by decide, tb_in5, tbm 158 (by decide +kernel) rfl⟩
set_option maxRecDepth 100000 in
theorem fpX11_146 : FP RX11 146 5 3 false (.int) := ⟨_, _, _, tyX5, rfl, by decide, tb_in5, tbm 158 (by decide +kernel) rfl, tyX5_ok, nmX5, rfl, rfl, fun h => nomatch h⟩
set_option maxRecDepth 100000 in
theorem flX9_9 : FL RX9 9 9 0 := ⟨_, _, _, rfl, by decide, tb_in9, tbm 178 (by decide +kernel) rfl⟩
set_option maxRecDepth 100000 in
theorem fpX9_9 : FP RX9 9 9 0 true (.array .int) := ⟨_, _, _, tyX9, rfl, by decide, tb_in9, tbm 178 (by decide +kernel) rfl, tyX9_ok, nmX9, rfl, rfl, fun _ => rfl⟩
set_option maxRecDepth 100000 in
theorem flX6_48 : FL RX6 48 9 0 := ⟨_, _, _, rfl, by decide, tb_in9, tbm 179 (by decide +kernel) rfl⟩
set_option maxRecDepth 100000 in
theorem flX11_111 : FL RX11 111 9 0 := ⟨_, _, _, rfl, by decide, tb_in9, tbm 180 (by decide +kernel) rfl⟩
set_option maxRecDepth 100000 in
theorem flX9_18 : FL RX9 18 9 1 := ⟨_, _, _, rfl, by decide, tb_in9, tbm 181 (by decide +kernel) rfl⟩
set_option maxRecDepth 100000 in
theorem fpX9_18 : FP RX9 18 9 1 true (.object "RainRecorder$Showers") := ⟨_, _, _, tyX9, rfl, by decide, tb_in9, tbm 181 (by decide +kernel) rfl, tyX9_ok, nmX9, rfl, rfl, fun _ => rfl⟩
set_option maxRecDepth 100000 in
theorem flX6_29 : FL RX6 29 9 1 := ⟨_, _, _, rfl, by decide, tb_in9, tbm 182 (by decide +kernel) rfl⟩
set_option maxRecDepth 100000 in
theorem flX11_55 : FL RX11 55 9 1 := ⟨_, _, _, rfl, by decide, tb_in9, tbm 183 (by decide +kernel) rfl⟩
set_option maxRecDepth 100000 in
theorem flX9_25 : FL RX9 25 9 2 := ⟨_, _, _, rfl, by decide, tb_in9, tbm 184 (by decide +kernel) rfl⟩
set_option maxRecDepth 100000 in
theorem fpX9_25 : FP RX9 25 9 2 true (.object "RainRecorder$Film") := ⟨_, _, _, tyX9, rfl, by decide, tb_in9, tbm 184 (by decide +kernel) rfl, tyX9_ok, nmX9, rfl, rfl, fun _ => rfl⟩
set_option maxRecDepth 100000 in
theorem flX6_44 : FL RX6 44 9 2 := ⟨_, _, _, rfl, by decide, tb_in9, tbm 185 (by decide +kernel) rfl⟩
set_option maxRecDepth 100000 in
theorem flX11_152 : FL RX11 152 9 2 := ⟨_, _, _, rfl, by decide, tb_in9, tbm 186 (by decide +kernel) rfl⟩
set_option maxRecDepth 100000 in
theorem flX9_32 : FL RX9 32 9 3 := ⟨_, _, _, rfl, by decide, tb_in9, tbm 187 (by decide +kernel) rfl⟩
set_option maxRecDepth 100000 in
theorem fpX9_32 : FP RX9 32 9 3 true (.object "RainRecorder$Bucket") := ⟨_, _, _, tyX9, rfl, by decide, tb_in9, tbm 187 (by decide +kernel) rfl, tyX9_ok, nmX9, rfl, rfl, fun _ => rfl⟩
set_option maxRecDepth 100000 in
theorem flX6_57 : FL RX6 57 9 3 := ⟨_, _, _, rfl, by decide, tb_in9, tbm 188 (by decide +kernel) rfl⟩
set_option maxRecDepth 100000 in
theorem flX11_161 : FL RX11 161 9 3 := ⟨_, _, _, rfl, by decide, tb_in9, tbm 189 (by decide +kernel) rfl⟩
set_option maxRecDepth 100000 in
theorem flX9_39 : FL RX9 39 9 4 := ⟨_, _, _, rfl, by decide, tb_in9, tbm 190 (by decide +kernel) rfl⟩
set_option maxRecDepth 100000 in
theorem fpX9_39 : FP RX9 39 9 4 true (.object "RainRecorder$Clock") := ⟨_, _, _, tyX9, rfl, by decide, tb_in9, tbm 190 (by decide +kernel) rfl, tyX9_ok, nmX9, rfl, rfl, fun _ => rfl⟩
set_option maxRecDepth 100000 in
theorem flX11_114 : FL RX11 114 9 4 := ⟨_, _, _, rfl, by decide, tb_in9, tbm 191 (by decide +kernel) rfl⟩
set_option maxRecDepth 100000 in
theorem flX9_46 : FL RX9 46 9 5 := ⟨_, _, _, rfl, by decide, tb_in9, tbm 192 (by decide +kernel) rfl⟩
set_option maxRecDepth 100000 in
theorem fpX9_46 : FP RX9 46 9 5 true (.object "RainRecorder$Gears") := ⟨_, _, _, tyX9, rfl, by decide, tb_in9, tbm 192 (by decide +kernel) rfl, tyX9_ok, nmX9, rfl, rfl, fun _ => rfl⟩
set_option maxRecDepth 100000 in
theorem flX11_123 : FL RX11 123 9 5 := ⟨_, _, _, rfl, by decide, tb_in9, tbm 193 (by decide +kernel) rfl⟩
set_option maxRecDepth 100000 in
theorem flX9_53 : FL RX9 53 9 6 := ⟨_, _, _, rfl, by decide, tb_in9, tbm 194 (by decide +kernel) rfl⟩
set_option maxRecDepth 100000 in
theorem fpX9_53 : FP RX9 53 9 6 true (.object "RainRecorder$Marks") := ⟨_, _, _, tyX9, rfl, by decide, tb_in9, tbm 194 (by decide +kernel) rfl, tyX9_ok, nmX9, rfl, rfl, fun _ => rfl⟩
set_option maxRecDepth 100000 in
theorem flX11_142 : FL RX11 142 9 6 := ⟨_, _, _, rfl, by decide, tb_in9, tbm 195 (by decide +kernel) rfl⟩
set_option maxRecDepth 100000 in
theorem flX11_47 : FL RX11 47 9 7 := ⟨_, _, _, rfl, by decide, tb_in9, tbm 196 (by decide +kernel) rfl⟩
set_option maxRecDepth 100000 in
theorem fpX11_47 : FP RX11 47 9 7 false (.int) := ⟨_, _, _, tyX9, rfl, by decide, tb_in9, tbm 196 (by decide +kernel) rfl, tyX9_ok, nmX9, rfl, rfl, fun h => nomatch h⟩
set_option maxRecDepth 100000 in
theorem flX6_35 : FL RX6 35 9 7 := ⟨_, _, _, rfl, by decide, tb_in9, tbm 197 (by decide +kernel) rfl⟩
set_option maxRecDepth 100000 in
theorem fpX6_35 : FP RX6 35 9 7 false (.int) := ⟨_, _, _, tyX9, rfl, by decide, tb_in9, tbm 197 (by decide +kernel) rfl, tyX9_ok, nmX9, rfl, rfl, fun h => nomatch h⟩
set_option maxRecDepth 100000 in
theorem flX9_83 : FL RX9 83 9 7 := ⟨_, _, _, rfl, by decide, tb_in9, tbm 198 (by decide +kernel) rfl⟩
set_option maxRecDepth 100000 in
theorem fpX9_83 : FP RX9 83 9 7 false (.int) := ⟨_, _, _, tyX9, rfl, by decide, tb_in9, tbm 198 (by decide +kernel) rfl, tyX9_ok, nmX9, rfl, rfl, fun _ => rfl⟩
set_option maxRecDepth 100000 in
theorem flX9_87 : FL RX9 87 9 8 := ⟨_, _, _, rfl, by decide, tb_in9, tbm 199 (by decide +kernel) rfl⟩
set_option maxRecDepth 100000 in
theorem fpX9_87 : FP RX9 87 9 8 false (.int) := ⟨_, _, _, tyX9, rfl, by decide, tb_in9, tbm 199 (by decide +kernel) rfl, tyX9_ok, nmX9, rfl, rfl, fun _ => rfl⟩
set_option maxRecDepth 100000 in
theorem flX4_11 : FL RX4 11 4 0 := ⟨_, _, _, rfl, by decide, tb_in4, tbm 228 (by decide +kernel) rfl⟩
set_option maxRecDepth 100000 in
theorem fpX4_11 : FP RX4 11 4 0 true (.array (.object "RainRecorder$State")) := ⟨_, _, _, tyX4, rfl, by decide, tb_in4, tbm 228 (by decide +kernel) rfl, tyX4_ok, nmX4, rfl, rfl, fun _ => rfl⟩
set_option maxRecDepth 100000 in
theorem flX4_18 : FL RX4 18 4 1 := ⟨_, _, _, rfl, by decide, tb_in4, tbm 229 (by decide +kernel) rfl⟩
set_option maxRecDepth 100000 in
theorem fpX4_18 : FP RX4 18 4 1 false (.int) := ⟨_, _, _, tyX4, rfl, by decide, tb_in4, tbm 229 (by decide +kernel) rfl, tyX4_ok, nmX4, rfl, rfl, fun _ => rfl⟩
set_option maxRecDepth 100000 in
theorem flX11_101 : FL RX11 101 4 1 := ⟨_, _, _, rfl, by decide, tb_in4, tbm 230 (by decide +kernel) rfl⟩
set_option maxRecDepth 100000 in
theorem fpX11_101 : FP RX11 101 4 1 false (.int) := ⟨_, _, _, tyX4, rfl, by decide, tb_in4, tbm 230 (by decide +kernel) rfl, tyX4_ok, nmX4, rfl, rfl, fun h => nomatch h⟩
set_option maxRecDepth 100000 in
theorem flX6_9 : FL RX6 9 6 0 := ⟨_, _, _, rfl, by decide, tb_in6, tbm 242 (by decide +kernel) rfl⟩
set_option maxRecDepth 100000 in
theorem fpX6_9 : FP RX6 9 6 0 true (.array .int) := ⟨_, _, _, tyX6, rfl, by decide, tb_in6, tbm 242 (by decide +kernel) rfl, tyX6_ok, nmX6, rfl, rfl, fun _ => rfl⟩
set_option maxRecDepth 100000 in
theorem flX6_15 : FL RX6 15 6 1 := ⟨_, _, _, rfl, by decide, tb_in6, tbm 243 (by decide +kernel) rfl⟩
set_option maxRecDepth 100000 in
theorem fpX6_15 : FP RX6 15 6 1 true (.array .boolean) := ⟨_, _, _, tyX6, rfl, by decide, tb_in6, tbm 243 (by decide +kernel) rfl, tyX6_ok, nmX6, rfl, rfl, fun _ => rfl⟩
set_option maxRecDepth 100000 in
theorem flX6_25 : FL RX6 25 6 2 := ⟨_, _, _, rfl, by decide, tb_in6, tbm 244 (by decide +kernel) rfl⟩
set_option maxRecDepth 100000 in
theorem fpX6_25 : FP RX6 25 6 2 false (.int) := ⟨_, _, _, tyX6, rfl, by decide, tb_in6, tbm 244 (by decide +kernel) rfl, tyX6_ok, nmX6, rfl, rfl, fun _ => rfl⟩
set_option maxRecDepth 100000 in
theorem flX10_9 : FL RX10 9 10 0 := ⟨_, _, _, rfl, by decide, tb_in10, tbm 259 (by decide +kernel) rfl⟩
set_option maxRecDepth 100000 in
theorem fpX10_9 : FP RX10 9 10 0 true (.array .char) := ⟨_, _, _, tyX10, rfl, by decide, tb_in10, tbm 259 (by decide +kernel) rfl, tyX10_ok, nmX10, rfl, rfl, fun _ => rfl⟩
set_option maxRecDepth 100000 in
theorem flX11_178 : FL RX11 178 10 1 := ⟨_, _, _, rfl, by decide, tb_in10, tbm 260 (by decide +kernel) rfl⟩
set_option maxRecDepth 100000 in
theorem fpX11_178 : FP RX11 178 10 1 false (.int) := ⟨_, _, _, tyX10, rfl, by decide, tb_in10, tbm 260 (by decide +kernel) rfl, tyX10_ok, nmX10, rfl, rfl, fun h => nomatch h⟩
set_option maxRecDepth 100000 in
theorem flX7_9 : FL RX7 9 7 0 := ⟨_, _, _, rfl, by decide, tb_in7, tbm 273 (by decide +kernel) rfl⟩
set_option maxRecDepth 100000 in
theorem fpX7_9 : FP RX7 9 7 0 true (.array .int) := ⟨_, _, _, tyX7, rfl, by decide, tb_in7, tbm 273 (by decide +kernel) rfl, tyX7_ok, nmX7, rfl, rfl, fun _ => rfl⟩
set_option maxRecDepth 100000 in
theorem flX7_15 : FL RX7 15 7 1 := ⟨_, _, _, rfl, by decide, tb_in7, tbm 274 (by decide +kernel) rfl⟩
set_option maxRecDepth 100000 in
theorem fpX7_15 : FP RX7 15 7 1 true (.array .int) := ⟨_, _, _, tyX7, rfl, by decide, tb_in7, tbm 274 (by decide +kernel) rfl, tyX7_ok, nmX7, rfl, rfl, fun _ => rfl⟩
set_option maxRecDepth 100000 in
theorem flX7_18 : FL RX7 18 7 2 := ⟨_, _, _, rfl, by decide, tb_in7, tbm 275 (by decide +kernel) rfl⟩
set_option maxRecDepth 100000 in
theorem fpX7_18 : FP RX7 18 7 2 true (.array .int) := ⟨_, _, _, tyX7, rfl, by decide, tb_in7, tbm 275 (by decide +kernel) rfl, tyX7_ok, nmX7, rfl, rfl, fun _ => rfl⟩
set_option maxRecDepth 100000 in
theorem flX11_10 : FL RX11 10 11 0 := ⟨_, _, _, rfl, by decide, tb_in11, tbm 291 (by decide +kernel) rfl⟩
set_option maxRecDepth 100000 in
theorem fpX11_10 : FP RX11 10 11 0 true (.object "RainRecorder$State") := ⟨_, _, _, tyX11, rfl, by decide, tb_in11, tbm 291 (by decide +kernel) rfl, tyX11_ok, nmX11, rfl, rfl, fun _ => rfl⟩
set_option maxRecDepth 100000 in
theorem flX11_16 : FL RX11 16 11 1 := ⟨_, _, _, rfl, by decide, tb_in11, tbm 292 (by decide +kernel) rfl⟩
set_option maxRecDepth 100000 in
theorem fpX11_16 : FP RX11 16 11 1 true (.object "RainRecorder$State") := ⟨_, _, _, tyX11, rfl, by decide, tb_in11, tbm 292 (by decide +kernel) rfl, tyX11_ok, nmX11, rfl, rfl, fun _ => rfl⟩
set_option maxRecDepth 100000 in
theorem flX11_22 : FL RX11 22 11 2 := ⟨_, _, _, rfl, by decide, tb_in11, tbm 293 (by decide +kernel) rfl⟩
set_option maxRecDepth 100000 in
theorem fpX11_22 : FP RX11 22 11 2 true (.object "RainRecorder$History") := ⟨_, _, _, tyX11, rfl, by decide, tb_in11, tbm 293 (by decide +kernel) rfl, tyX11_ok, nmX11, rfl, rfl, fun _ => rfl⟩
set_option maxRecDepth 100000 in
theorem flX11_29 : FL RX11 29 11 3 := ⟨_, _, _, rfl, by decide, tb_in11, tbm 294 (by decide +kernel) rfl⟩
set_option maxRecDepth 100000 in
theorem fpX11_29 : FP RX11 29 11 3 true (.object "RainRecorder$Outlook") := ⟨_, _, _, tyX11, rfl, by decide, tb_in11, tbm 294 (by decide +kernel) rfl, tyX11_ok, nmX11, rfl, rfl, fun _ => rfl⟩
set_option maxRecDepth 100000 in
theorem flX11_36 : FL RX11 36 11 4 := ⟨_, _, _, rfl, by decide, tb_in11, tbm 295 (by decide +kernel) rfl⟩
set_option maxRecDepth 100000 in
theorem fpX11_36 : FP RX11 36 11 4 true (.object "RainRecorder$Text") := ⟨_, _, _, tyX11, rfl, by decide, tb_in11, tbm 295 (by decide +kernel) rfl, tyX11_ok, nmX11, rfl, rfl, fun _ => rfl⟩
set_option maxRecDepth 100000 in
theorem flX11_43 : FL RX11 43 11 5 := ⟨_, _, _, rfl, by decide, tb_in11, tbm 296 (by decide +kernel) rfl⟩
set_option maxRecDepth 100000 in
theorem fpX11_43 : FP RX11 43 11 5 true (.object "RainRecorder$Reading") := ⟨_, _, _, tyX11, rfl, by decide, tb_in11, tbm 296 (by decide +kernel) rfl, tyX11_ok, nmX11, rfl, rfl, fun _ => rfl⟩
set_option maxRecDepth 100000 in
theorem gsX11_105 : Cond.fieldLink RX11 105 RX11 "LEAST_VALUES" "[I" ∈ TB := tbm 452 (by decide +kernel) rfl
set_option maxRecDepth 100000 in
theorem gsX11_108 : Cond.fieldLink RX11 108 RX11 "GREATEST_VALUES" "[I" ∈ TB := tbm 454 (by decide +kernel) rfl
set_option maxRecDepth 100000 in
theorem mlL_44 : MLI RL 44 yX11_init cX11_init 1 0 := ⟨⟨tbm 10 (by decide +kernel) rfl, tbm 28 (by decide +kernel) rfl, ⟨by decide, by decide, by decide +kernel⟩, by decide, Or.inl (tbm 26 (by decide +kernel) rfl)⟩, rfl, tbm 27 (by decide +kernel) rfl⟩
set_option maxRecDepth 100000 in
theorem mlX11_9 : MLI RX11 9 yX9_init cX9_init 1 0 := ⟨⟨tbm 11 (by decide +kernel) rfl, tbm 36 (by decide +kernel) rfl, ⟨by decide, by decide, by decide +kernel⟩, by decide, Or.inl (tbm 34 (by decide +kernel) rfl)⟩, rfl, tbm 35 (by decide +kernel) rfl⟩
set_option maxRecDepth 100000 in
theorem mlX9_17 : MLI RX9 17 yX8_init cX8_init 1 0 := ⟨⟨tbm 12 (by decide +kernel) rfl, tbm 42 (by decide +kernel) rfl, ⟨by decide, by decide, by decide +kernel⟩, by decide, Or.inr ⟨"RainRecorder", tnm 40 (by decide +kernel) rfl⟩⟩, rfl, tbm 41 (by decide +kernel) rfl⟩
set_option maxRecDepth 100000 in
theorem mlX9_24 : MLI RX9 24 yX2_init cX2_init 1 0 := ⟨⟨tbm 13 (by decide +kernel) rfl, tbm 66 (by decide +kernel) rfl, ⟨by decide, by decide, by decide +kernel⟩, by decide, Or.inr ⟨"RainRecorder", tnm 64 (by decide +kernel) rfl⟩⟩, rfl, tbm 65 (by decide +kernel) rfl⟩
set_option maxRecDepth 100000 in
theorem mlX9_31 : MLI RX9 31 yX0_init cX0_init 1 0 := ⟨⟨tbm 14 (by decide +kernel) rfl, tbm 81 (by decide +kernel) rfl, ⟨by decide, by decide, by decide +kernel⟩, by decide, Or.inr ⟨"RainRecorder", tnm 79 (by decide +kernel) rfl⟩⟩, rfl, tbm 80 (by decide +kernel) rfl⟩
set_option maxRecDepth 100000 in
theorem mlX9_38 : MLI RX9 38 yX1_init cX1_init 1 0 := ⟨⟨tbm 15 (by decide +kernel) rfl, tbm 114 (by decide +kernel) rfl, ⟨by decide, by decide, by decide +kernel⟩, by decide, Or.inr ⟨"RainRecorder", tnm 112 (by decide +kernel) rfl⟩⟩, rfl, tbm 113 (by decide +kernel) rfl⟩
set_option maxRecDepth 100000 in
theorem mlX9_45 : MLI RX9 45 yX3_init cX3_init 1 0 := ⟨⟨tbm 16 (by decide +kernel) rfl, tbm 132 (by decide +kernel) rfl, ⟨by decide, by decide, by decide +kernel⟩, by decide, Or.inr ⟨"RainRecorder", tnm 130 (by decide +kernel) rfl⟩⟩, rfl, tbm 131 (by decide +kernel) rfl⟩
set_option maxRecDepth 100000 in
theorem mlX9_52 : MLI RX9 52 yX5_init cX5_init 1 0 := ⟨⟨tbm 17 (by decide +kernel) rfl, tbm 149 (by decide +kernel) rfl, ⟨by decide, by decide, by decide +kernel⟩, by decide, Or.inr ⟨"RainRecorder", tnm 147 (by decide +kernel) rfl⟩⟩, rfl, tbm 148 (by decide +kernel) rfl⟩
set_option maxRecDepth 100000 in
theorem mlX9_60 : MLS RX9 60 yX11_copyRow cX11_copyRow 2 none 2 := ⟨⟨tbm 10 (by decide +kernel) rfl, tbm 171 (by decide +kernel) rfl, ⟨by decide, by decide, by decide +kernel⟩, by decide, Or.inr ⟨"RainRecorder", tnm 169 (by decide +kernel) rfl⟩⟩, tbm 170 (by decide +kernel) rfl⟩
set_option maxRecDepth 100000 in
theorem mlX11_264 : MLS RX11 264 yJ9_min_7cf53 cJ9_min_7cf53 2 (some .int) 2 := ⟨⟨tbm 18 (by decide +kernel) rfl, tbm 174 (by decide +kernel) rfl, ⟨by decide, by decide, by decide +kernel⟩, by decide, Or.inl (tbm 172 (by decide +kernel) rfl)⟩, tbm 173 (by decide +kernel) rfl⟩
set_option maxRecDepth 100000 in
theorem mlX11_21 : MLI RX11 21 yX4_init cX4_init 2 0 := ⟨⟨tbm 20 (by decide +kernel) rfl, tbm 223 (by decide +kernel) rfl, ⟨by decide, by decide, by decide +kernel⟩, by decide, Or.inl (tbm 221 (by decide +kernel) rfl)⟩, rfl, tbm 222 (by decide +kernel) rfl⟩
set_option maxRecDepth 100000 in
theorem mlX4_17 : MLI RX4 17 yX9_init cX9_init 1 0 := ⟨⟨tbm 11 (by decide +kernel) rfl, tbm 36 (by decide +kernel) rfl, ⟨by decide, by decide, by decide +kernel⟩, by decide, Or.inl (tbm 227 (by decide +kernel) rfl)⟩, rfl, tbm 35 (by decide +kernel) rfl⟩
set_option maxRecDepth 100000 in
theorem mlX11_28 : MLI RX11 28 yX6_init cX6_init 1 0 := ⟨⟨tbm 21 (by decide +kernel) rfl, tbm 240 (by decide +kernel) rfl, ⟨by decide, by decide, by decide +kernel⟩, by decide, Or.inr ⟨"RainRecorder", tnm 238 (by decide +kernel) rfl⟩⟩, rfl, tbm 239 (by decide +kernel) rfl⟩
set_option maxRecDepth 100000 in
theorem mlX11_35 : MLI RX11 35 yX10_init cX10_init 1 0 := ⟨⟨tbm 22 (by decide +kernel) rfl, tbm 257 (by decide +kernel) rfl, ⟨by decide, by decide, by decide +kernel⟩, by decide, Or.inr ⟨"RainRecorder", tnm 255 (by decide +kernel) rfl⟩⟩, rfl, tbm 256 (by decide +kernel) rfl⟩
set_option maxRecDepth 100000 in
theorem mlX11_42 : MLI RX11 42 yX7_init cX7_init 1 0 := ⟨⟨tbm 23 (by decide +kernel) rfl, tbm 271 (by decide +kernel) rfl, ⟨by decide, by decide, by decide +kernel⟩, by decide, Or.inr ⟨"RainRecorder", tnm 269 (by decide +kernel) rfl⟩⟩, rfl, tbm 270 (by decide +kernel) rfl⟩
set_option maxRecDepth 100000 in
theorem mlL_52 : MLV RL 52 yX11_addShower cX11_addShower 4 (some .int) 3 := ⟨⟨tbm 10 (by decide +kernel) rfl, tbm 313 (by decide +kernel) rfl, ⟨by decide, by decide, by decide +kernel⟩, by decide, Or.inl (tbm 310 (by decide +kernel) rfl)⟩, tbm 310 (by decide +kernel) rfl, tbm 311 (by decide +kernel) rfl, tbm 312 (by decide +kernel) rfl⟩
set_option maxRecDepth 100000 in
theorem mlX11_51 : MLS RX11 51 yX11_isWithin cX11_isWithin 3 (some .boolean) 3 := ⟨⟨tbm 10 (by decide +kernel) rfl, tbm 316 (by decide +kernel) rfl, ⟨by decide, by decide, by decide +kernel⟩, by decide, Or.inl (tbm 314 (by decide +kernel) rfl)⟩, tbm 315 (by decide +kernel) rfl⟩
set_option maxRecDepth 100000 in
theorem mlX11_64 : MLV RX11 64 yX4_keep cX4_keep 2 none 1 := ⟨⟨tbm 20 (by decide +kernel) rfl, tbm 320 (by decide +kernel) rfl, ⟨by decide, by decide, by decide +kernel⟩, by decide, Or.inl (tbm 317 (by decide +kernel) rfl)⟩, tbm 317 (by decide +kernel) rfl, tbm 318 (by decide +kernel) rfl, tbm 319 (by decide +kernel) rfl⟩
set_option maxRecDepth 100000 in
theorem mlX4_22 : MLV RX4 22 yX4_dropOldest cX4_dropOldest 3 none 0 := ⟨⟨tbm 20 (by decide +kernel) rfl, tbm 324 (by decide +kernel) rfl, ⟨by decide, by decide, by decide +kernel⟩, by decide, Or.inl (tbm 321 (by decide +kernel) rfl)⟩, tbm 321 (by decide +kernel) rfl, tbm 323 (by decide +kernel) rfl, tbm 0 (by decide +kernel) rfl⟩
set_option maxRecDepth 100000 in
theorem mlX4_25 : MLV RX4 25 yX9_copyFrom cX9_copyFrom 2 none 1 := ⟨⟨tbm 11 (by decide +kernel) rfl, tbm 328 (by decide +kernel) rfl, ⟨by decide, by decide, by decide +kernel⟩, by decide, Or.inl (tbm 325 (by decide +kernel) rfl)⟩, tbm 325 (by decide +kernel) rfl, tbm 326 (by decide +kernel) rfl, tbm 327 (by decide +kernel) rfl⟩
set_option maxRecDepth 100000 in
theorem mlX9_64 : MLV RX9 64 yX8_copyFrom cX8_copyFrom 2 none 1 := ⟨⟨tbm 12 (by decide +kernel) rfl, tbm 332 (by decide +kernel) rfl, ⟨by decide, by decide, by decide +kernel⟩, by decide, Or.inl (tbm 329 (by decide +kernel) rfl)⟩, tbm 329 (by decide +kernel) rfl, tbm 330 (by decide +kernel) rfl, tbm 331 (by decide +kernel) rfl⟩
set_option maxRecDepth 100000 in
theorem mlX8_21 : MLS RX8 21 yX11_copyRow cX11_copyRow 2 none 2 := ⟨⟨tbm 10 (by decide +kernel) rfl, tbm 171 (by decide +kernel) rfl, ⟨by decide, by decide, by decide +kernel⟩, by decide, Or.inr ⟨"RainRecorder", tnm 333 (by decide +kernel) rfl⟩⟩, tbm 170 (by decide +kernel) rfl⟩
set_option maxRecDepth 100000 in
theorem mlX9_68 : MLV RX9 68 yX2_copyFrom cX2_copyFrom 2 none 1 := ⟨⟨tbm 13 (by decide +kernel) rfl, tbm 337 (by decide +kernel) rfl, ⟨by decide, by decide, by decide +kernel⟩, by decide, Or.inl (tbm 334 (by decide +kernel) rfl)⟩, tbm 334 (by decide +kernel) rfl, tbm 335 (by decide +kernel) rfl, tbm 336 (by decide +kernel) rfl⟩
set_option maxRecDepth 100000 in
theorem mlX9_71 : MLV RX9 71 yX0_copyFrom cX0_copyFrom 2 none 1 := ⟨⟨tbm 14 (by decide +kernel) rfl, tbm 341 (by decide +kernel) rfl, ⟨by decide, by decide, by decide +kernel⟩, by decide, Or.inl (tbm 338 (by decide +kernel) rfl)⟩, tbm 338 (by decide +kernel) rfl, tbm 339 (by decide +kernel) rfl, tbm 340 (by decide +kernel) rfl⟩
set_option maxRecDepth 100000 in
theorem mlX9_74 : MLV RX9 74 yX1_copyFrom cX1_copyFrom 2 none 1 := ⟨⟨tbm 15 (by decide +kernel) rfl, tbm 345 (by decide +kernel) rfl, ⟨by decide, by decide, by decide +kernel⟩, by decide, Or.inl (tbm 342 (by decide +kernel) rfl)⟩, tbm 342 (by decide +kernel) rfl, tbm 343 (by decide +kernel) rfl, tbm 344 (by decide +kernel) rfl⟩
set_option maxRecDepth 100000 in
theorem mlX9_77 : MLV RX9 77 yX3_copyFrom cX3_copyFrom 2 none 1 := ⟨⟨tbm 16 (by decide +kernel) rfl, tbm 349 (by decide +kernel) rfl, ⟨by decide, by decide, by decide +kernel⟩, by decide, Or.inl (tbm 346 (by decide +kernel) rfl)⟩, tbm 346 (by decide +kernel) rfl, tbm 347 (by decide +kernel) rfl, tbm 348 (by decide +kernel) rfl⟩
set_option maxRecDepth 100000 in
theorem mlX3_18 : MLS RX3 18 yX11_copyRow cX11_copyRow 2 none 2 := ⟨⟨tbm 10 (by decide +kernel) rfl, tbm 171 (by decide +kernel) rfl, ⟨by decide, by decide, by decide +kernel⟩, by decide, Or.inr ⟨"RainRecorder", tnm 350 (by decide +kernel) rfl⟩⟩, tbm 170 (by decide +kernel) rfl⟩
set_option maxRecDepth 100000 in
theorem mlX9_80 : MLV RX9 80 yX5_copyFrom cX5_copyFrom 2 none 1 := ⟨⟨tbm 17 (by decide +kernel) rfl, tbm 354 (by decide +kernel) rfl, ⟨by decide, by decide, by decide +kernel⟩, by decide, Or.inl (tbm 351 (by decide +kernel) rfl)⟩, tbm 351 (by decide +kernel) rfl, tbm 352 (by decide +kernel) rfl, tbm 353 (by decide +kernel) rfl⟩
set_option maxRecDepth 100000 in
theorem mlX5_21 : MLS RX5 21 yX11_copyRow cX11_copyRow 2 none 2 := ⟨⟨tbm 10 (by decide +kernel) rfl, tbm 171 (by decide +kernel) rfl, ⟨by decide, by decide, by decide +kernel⟩, by decide, Or.inr ⟨"RainRecorder", tnm 355 (by decide +kernel) rfl⟩⟩, tbm 170 (by decide +kernel) rfl⟩
set_option maxRecDepth 100000 in
theorem mlX11_68 : MLV RX11 68 yX8_insert cX8_insert 5 (some .int) 3 := ⟨⟨tbm 12 (by decide +kernel) rfl, tbm 359 (by decide +kernel) rfl, ⟨by decide, by decide, by decide +kernel⟩, by decide, Or.inl (tbm 356 (by decide +kernel) rfl)⟩, tbm 356 (by decide +kernel) rfl, tbm 357 (by decide +kernel) rfl, tbm 358 (by decide +kernel) rfl⟩
set_option maxRecDepth 100000 in
theorem mlX8_29 : MLV RX8 29 yX8_move cX8_move 3 none 2 := ⟨⟨tbm 12 (by decide +kernel) rfl, tbm 363 (by decide +kernel) rfl, ⟨by decide, by decide, by decide +kernel⟩, by decide, Or.inl (tbm 360 (by decide +kernel) rfl)⟩, tbm 360 (by decide +kernel) rfl, tbm 362 (by decide +kernel) rfl, tbm 1 (by decide +kernel) rfl⟩
set_option maxRecDepth 100000 in
theorem mlL_25 : MLV RL 25 yX11_shower cX11_shower 3 (some .int) 2 := ⟨⟨tbm 10 (by decide +kernel) rfl, tbm 367 (by decide +kernel) rfl, ⟨by decide, by decide, by decide +kernel⟩, by decide, Or.inl (tbm 364 (by decide +kernel) rfl)⟩, tbm 364 (by decide +kernel) rfl, tbm 365 (by decide +kernel) rfl, tbm 366 (by decide +kernel) rfl⟩
set_option maxRecDepth 100000 in
theorem mlX11_72 : MLV RX11 72 yX8_has cX8_has 2 (some .boolean) 1 := ⟨⟨tbm 12 (by decide +kernel) rfl, tbm 371 (by decide +kernel) rfl, ⟨by decide, by decide, by decide +kernel⟩, by decide, Or.inl (tbm 368 (by decide +kernel) rfl)⟩, tbm 368 (by decide +kernel) rfl, tbm 369 (by decide +kernel) rfl, tbm 370 (by decide +kernel) rfl⟩
set_option maxRecDepth 100000 in
theorem mlX11_90 : MLV RX11 90 yX8_ticksToCome cX8_ticksToCome 3 (some .int) 2 := ⟨⟨tbm 12 (by decide +kernel) rfl, tbm 375 (by decide +kernel) rfl, ⟨by decide, by decide, by decide +kernel⟩, by decide, Or.inl (tbm 372 (by decide +kernel) rfl)⟩, tbm 372 (by decide +kernel) rfl, tbm 373 (by decide +kernel) rfl, tbm 374 (by decide +kernel) rfl⟩
set_option maxRecDepth 100000 in
theorem mlX8_33 : MLV RX8 33 yX8_has cX8_has 2 (some .boolean) 1 := ⟨⟨tbm 12 (by decide +kernel) rfl, tbm 371 (by decide +kernel) rfl, ⟨by decide, by decide, by decide +kernel⟩, by decide, Or.inl (tbm 376 (by decide +kernel) rfl)⟩, tbm 376 (by decide +kernel) rfl, tbm 369 (by decide +kernel) rfl, tbm 370 (by decide +kernel) rfl⟩
set_option maxRecDepth 100000 in
theorem mlX8_37 : MLS RX8 37 yJ9_max_7cf53 cJ9_max_7cf53 2 (some .int) 2 := ⟨⟨tbm 18 (by decide +kernel) rfl, tbm 379 (by decide +kernel) rfl, ⟨by decide, by decide, by decide +kernel⟩, by decide, Or.inl (tbm 377 (by decide +kernel) rfl)⟩, tbm 378 (by decide +kernel) rfl⟩
set_option maxRecDepth 100000 in
theorem mlL_32 : MLV RL 32 yX11_run cX11_run 3 (some .int) 1 := ⟨⟨tbm 10 (by decide +kernel) rfl, tbm 383 (by decide +kernel) rfl, ⟨by decide, by decide, by decide +kernel⟩, by decide, Or.inl (tbm 380 (by decide +kernel) rfl)⟩, tbm 380 (by decide +kernel) rfl, tbm 381 (by decide +kernel) rfl, tbm 382 (by decide +kernel) rfl⟩
set_option maxRecDepth 100000 in
theorem mlX11_94 : MLV RX11 94 yX11_errorOfTicks cX11_errorOfTicks 2 (some .int) 1 := ⟨⟨tbm 10 (by decide +kernel) rfl, tbm 387 (by decide +kernel) rfl, ⟨by decide, by decide, by decide +kernel⟩, by decide, Or.inl (tbm 384 (by decide +kernel) rfl)⟩, tbm 384 (by decide +kernel) rfl, tbm 386 (by decide +kernel) rfl, tbm 2 (by decide +kernel) rfl⟩
set_option maxRecDepth 100000 in
theorem mlX11_98 : MLV RX11 98 yX9_passTicks cX9_passTicks 4 (some .int) 1 := ⟨⟨tbm 11 (by decide +kernel) rfl, tbm 391 (by decide +kernel) rfl, ⟨by decide, by decide, by decide +kernel⟩, by decide, Or.inl (tbm 388 (by decide +kernel) rfl)⟩, tbm 388 (by decide +kernel) rfl, tbm 389 (by decide +kernel) rfl, tbm 390 (by decide +kernel) rfl⟩
set_option maxRecDepth 100000 in
theorem mlX9_90 : MLV RX9 90 yX9_passTick cX9_passTick 4 (some .boolean) 0 := ⟨⟨tbm 11 (by decide +kernel) rfl, tbm 395 (by decide +kernel) rfl, ⟨by decide, by decide, by decide +kernel⟩, by decide, Or.inl (tbm 392 (by decide +kernel) rfl)⟩, tbm 392 (by decide +kernel) rfl, tbm 394 (by decide +kernel) rfl, tbm 3 (by decide +kernel) rfl⟩
set_option maxRecDepth 100000 in
theorem mlX9_94 : MLV RX9 94 yX8_rainIn cX8_rainIn 4 (some .int) 1 := ⟨⟨tbm 12 (by decide +kernel) rfl, tbm 399 (by decide +kernel) rfl, ⟨by decide, by decide, by decide +kernel⟩, by decide, Or.inl (tbm 396 (by decide +kernel) rfl)⟩, tbm 396 (by decide +kernel) rfl, tbm 397 (by decide +kernel) rfl, tbm 398 (by decide +kernel) rfl⟩
set_option maxRecDepth 100000 in
theorem mlX9_98 : MLV RX9 98 yX2_passTick cX2_passTick 6 (some .int) 3 := ⟨⟨tbm 13 (by decide +kernel) rfl, tbm 403 (by decide +kernel) rfl, ⟨by decide, by decide, by decide +kernel⟩, by decide, Or.inl (tbm 400 (by decide +kernel) rfl)⟩, tbm 400 (by decide +kernel) rfl, tbm 401 (by decide +kernel) rfl, tbm 402 (by decide +kernel) rfl⟩
set_option maxRecDepth 100000 in
theorem mlX2_16 : MLS RX2 16 yJ9_max_7cf53 cJ9_max_7cf53 2 (some .int) 2 := ⟨⟨tbm 18 (by decide +kernel) rfl, tbm 379 (by decide +kernel) rfl, ⟨by decide, by decide, by decide +kernel⟩, by decide, Or.inl (tbm 404 (by decide +kernel) rfl)⟩, tbm 378 (by decide +kernel) rfl⟩
set_option maxRecDepth 100000 in
theorem mlX2_22 : MLS RX2 22 yJ9_min_7cf53 cJ9_min_7cf53 2 (some .int) 2 := ⟨⟨tbm 18 (by decide +kernel) rfl, tbm 174 (by decide +kernel) rfl, ⟨by decide, by decide, by decide +kernel⟩, by decide, Or.inl (tbm 405 (by decide +kernel) rfl)⟩, tbm 173 (by decide +kernel) rfl⟩
set_option maxRecDepth 100000 in
theorem mlX9_101 : MLV RX9 101 yX0_passTick cX0_passTick 7 (some .int) 5 := ⟨⟨tbm 14 (by decide +kernel) rfl, tbm 409 (by decide +kernel) rfl, ⟨by decide, by decide, by decide +kernel⟩, by decide, Or.inl (tbm 406 (by decide +kernel) rfl)⟩, tbm 406 (by decide +kernel) rfl, tbm 407 (by decide +kernel) rfl, tbm 408 (by decide +kernel) rfl⟩
set_option maxRecDepth 100000 in
theorem mlX0_30 : MLS RX0 30 yJ9_min_7cf53 cJ9_min_7cf53 2 (some .int) 2 := ⟨⟨tbm 18 (by decide +kernel) rfl, tbm 174 (by decide +kernel) rfl, ⟨by decide, by decide, by decide +kernel⟩, by decide, Or.inl (tbm 410 (by decide +kernel) rfl)⟩, tbm 173 (by decide +kernel) rfl⟩
set_option maxRecDepth 100000 in
theorem mlX0_36 : MLV RX0 36 yX0_tip cX0_tip 4 (some .int) 2 := ⟨⟨tbm 14 (by decide +kernel) rfl, tbm 414 (by decide +kernel) rfl, ⟨by decide, by decide, by decide +kernel⟩, by decide, Or.inl (tbm 411 (by decide +kernel) rfl)⟩, tbm 411 (by decide +kernel) rfl, tbm 413 (by decide +kernel) rfl, tbm 4 (by decide +kernel) rfl⟩
set_option maxRecDepth 100000 in
theorem mlX9_104 : MLV RX9 104 yX9_drumPlace cX9_drumPlace 1 (some .int) 0 := ⟨⟨tbm 11 (by decide +kernel) rfl, tbm 418 (by decide +kernel) rfl, ⟨by decide, by decide, by decide +kernel⟩, by decide, Or.inl (tbm 415 (by decide +kernel) rfl)⟩, tbm 415 (by decide +kernel) rfl, tbm 416 (by decide +kernel) rfl, tbm 417 (by decide +kernel) rfl⟩
set_option maxRecDepth 100000 in
theorem mlX9_121 : MLV RX9 121 yX3_placeOf cX3_placeOf 8 (some .int) 2 := ⟨⟨tbm 16 (by decide +kernel) rfl, tbm 422 (by decide +kernel) rfl, ⟨by decide, by decide, by decide +kernel⟩, by decide, Or.inl (tbm 419 (by decide +kernel) rfl)⟩, tbm 419 (by decide +kernel) rfl, tbm 420 (by decide +kernel) rfl, tbm 421 (by decide +kernel) rfl⟩
set_option maxRecDepth 100000 in
theorem mlX9_108 : MLV RX9 108 yX5_append cX5_append 4 none 3 := ⟨⟨tbm 17 (by decide +kernel) rfl, tbm 426 (by decide +kernel) rfl, ⟨by decide, by decide, by decide +kernel⟩, by decide, Or.inl (tbm 423 (by decide +kernel) rfl)⟩, tbm 423 (by decide +kernel) rfl, tbm 424 (by decide +kernel) rfl, tbm 425 (by decide +kernel) rfl⟩
set_option maxRecDepth 100000 in
theorem mlX5_29 : MLV RX5 29 yX5_removeOldest cX5_removeOldest 1 none 0 := ⟨⟨tbm 17 (by decide +kernel) rfl, tbm 430 (by decide +kernel) rfl, ⟨by decide, by decide, by decide +kernel⟩, by decide, Or.inl (tbm 427 (by decide +kernel) rfl)⟩, tbm 427 (by decide +kernel) rfl, tbm 429 (by decide +kernel) rfl, tbm 5 (by decide +kernel) rfl⟩
set_option maxRecDepth 100000 in
theorem mlX9_112 : MLV RX9 112 yX1_passTick cX1_passTick 1 none 0 := ⟨⟨tbm 15 (by decide +kernel) rfl, tbm 435 (by decide +kernel) rfl, ⟨by decide, by decide, by decide +kernel⟩, by decide, Or.inl (tbm 432 (by decide +kernel) rfl)⟩, tbm 432 (by decide +kernel) rfl, tbm 433 (by decide +kernel) rfl, tbm 434 (by decide +kernel) rfl⟩
set_option maxRecDepth 100000 in
theorem mlX9_114 : MLV RX9 114 yX8_removeEnded cX8_removeEnded 4 none 1 := ⟨⟨tbm 12 (by decide +kernel) rfl, tbm 439 (by decide +kernel) rfl, ⟨by decide, by decide, by decide +kernel⟩, by decide, Or.inl (tbm 436 (by decide +kernel) rfl)⟩, tbm 436 (by decide +kernel) rfl, tbm 437 (by decide +kernel) rfl, tbm 438 (by decide +kernel) rfl⟩
set_option maxRecDepth 100000 in
theorem mlL_41 : MLV RL 41 yX11_undo cX11_undo 1 (some .int) 0 := ⟨⟨tbm 10 (by decide +kernel) rfl, tbm 443 (by decide +kernel) rfl, ⟨by decide, by decide, by decide +kernel⟩, by decide, Or.inl (tbm 440 (by decide +kernel) rfl)⟩, tbm 440 (by decide +kernel) rfl, tbm 441 (by decide +kernel) rfl, tbm 442 (by decide +kernel) rfl⟩
set_option maxRecDepth 100000 in
theorem mlX11_102 : MLV RX11 102 yX4_restoreInto cX4_restoreInto 2 none 1 := ⟨⟨tbm 20 (by decide +kernel) rfl, tbm 447 (by decide +kernel) rfl, ⟨by decide, by decide, by decide +kernel⟩, by decide, Or.inl (tbm 444 (by decide +kernel) rfl)⟩, tbm 444 (by decide +kernel) rfl, tbm 445 (by decide +kernel) rfl, tbm 446 (by decide +kernel) rfl⟩
set_option maxRecDepth 100000 in
theorem mlL_49 : MLV RL 49 yX11_set cX11_set 4 (some .int) 2 := ⟨⟨tbm 10 (by decide +kernel) rfl, tbm 451 (by decide +kernel) rfl, ⟨by decide, by decide, by decide +kernel⟩, by decide, Or.inl (tbm 448 (by decide +kernel) rfl)⟩, tbm 448 (by decide +kernel) rfl, tbm 449 (by decide +kernel) rfl, tbm 450 (by decide +kernel) rfl⟩
set_option maxRecDepth 100000 in
theorem mlL_56 : MLV RL 56 yX11_wind cX11_wind 2 (some .int) 0 := ⟨⟨tbm 10 (by decide +kernel) rfl, tbm 459 (by decide +kernel) rfl, ⟨by decide, by decide, by decide +kernel⟩, by decide, Or.inl (tbm 456 (by decide +kernel) rfl)⟩, tbm 456 (by decide +kernel) rfl, tbm 457 (by decide +kernel) rfl, tbm 458 (by decide +kernel) rfl⟩
set_option maxRecDepth 100000 in
theorem mlL_15 : MLV RL 15 yX11_count cX11_count 2 (some .int) 1 := ⟨⟨tbm 10 (by decide +kernel) rfl, tbm 463 (by decide +kernel) rfl, ⟨by decide, by decide, by decide +kernel⟩, by decide, Or.inl (tbm 460 (by decide +kernel) rfl)⟩, tbm 460 (by decide +kernel) rfl, tbm 461 (by decide +kernel) rfl, tbm 462 (by decide +kernel) rfl⟩
set_option maxRecDepth 100000 in
theorem mlX11_149 : MLV RX11 149 yX5_countStorms cX5_countStorms 4 (some .int) 1 := ⟨⟨tbm 17 (by decide +kernel) rfl, tbm 467 (by decide +kernel) rfl, ⟨by decide, by decide, by decide +kernel⟩, by decide, Or.inl (tbm 464 (by decide +kernel) rfl)⟩, tbm 464 (by decide +kernel) rfl, tbm 465 (by decide +kernel) rfl, tbm 466 (by decide +kernel) rfl⟩
set_option maxRecDepth 100000 in
theorem mlX5_51 : MLV RX5 51 yX5_beginsStorm cX5_beginsStorm 3 (some .boolean) 2 := ⟨⟨tbm 17 (by decide +kernel) rfl, tbm 471 (by decide +kernel) rfl, ⟨by decide, by decide, by decide +kernel⟩, by decide, Or.inl (tbm 468 (by decide +kernel) rfl)⟩, tbm 468 (by decide +kernel) rfl, tbm 470 (by decide +kernel) rfl, tbm 6 (by decide +kernel) rfl⟩
set_option maxRecDepth 100000 in
theorem mlX5_42 : MLV RX5 42 yX5_ticksBetween cX5_ticksBetween 3 (some .int) 2 := ⟨⟨tbm 17 (by decide +kernel) rfl, tbm 475 (by decide +kernel) rfl, ⟨by decide, by decide, by decide +kernel⟩, by decide, Or.inl (tbm 472 (by decide +kernel) rfl)⟩, tbm 472 (by decide +kernel) rfl, tbm 473 (by decide +kernel) rfl, tbm 474 (by decide +kernel) rfl⟩
set_option maxRecDepth 100000 in
theorem mlX5_38 : MLV RX5 38 yX5_has cX5_has 2 (some .boolean) 1 := ⟨⟨tbm 17 (by decide +kernel) rfl, tbm 479 (by decide +kernel) rfl, ⟨by decide, by decide, by decide +kernel⟩, by decide, Or.inl (tbm 476 (by decide +kernel) rfl)⟩, tbm 476 (by decide +kernel) rfl, tbm 477 (by decide +kernel) rfl, tbm 478 (by decide +kernel) rfl⟩
set_option maxRecDepth 100000 in
theorem mlX11_174 : MLV RX11 174 yX9_drumPlace cX9_drumPlace 1 (some .int) 0 := ⟨⟨tbm 11 (by decide +kernel) rfl, tbm 418 (by decide +kernel) rfl, ⟨by decide, by decide, by decide +kernel⟩, by decide, Or.inl (tbm 480 (by decide +kernel) rfl)⟩, tbm 480 (by decide +kernel) rfl, tbm 416 (by decide +kernel) rfl, tbm 417 (by decide +kernel) rfl⟩
set_option maxRecDepth 100000 in
theorem mlX11_181 : MLV RX11 181 yX8_rainIn cX8_rainIn 4 (some .int) 1 := ⟨⟨tbm 12 (by decide +kernel) rfl, tbm 399 (by decide +kernel) rfl, ⟨by decide, by decide, by decide +kernel⟩, by decide, Or.inl (tbm 481 (by decide +kernel) rfl)⟩, tbm 481 (by decide +kernel) rfl, tbm 397 (by decide +kernel) rfl, tbm 398 (by decide +kernel) rfl⟩
set_option maxRecDepth 100000 in
theorem mlL_9 : MLV RL 9 yX11_account cX11_account 2 (some .int) 1 := ⟨⟨tbm 10 (by decide +kernel) rfl, tbm 485 (by decide +kernel) rfl, ⟨by decide, by decide, by decide +kernel⟩, by decide, Or.inl (tbm 482 (by decide +kernel) rfl)⟩, tbm 482 (by decide +kernel) rfl, tbm 483 (by decide +kernel) rfl, tbm 484 (by decide +kernel) rfl⟩
set_option maxRecDepth 100000 in
theorem mlX11_184 : MLV RX11 184 yX9_accountOf cX9_accountOf 2 (some .int) 1 := ⟨⟨tbm 11 (by decide +kernel) rfl, tbm 489 (by decide +kernel) rfl, ⟨by decide, by decide, by decide +kernel⟩, by decide, Or.inl (tbm 486 (by decide +kernel) rfl)⟩, tbm 486 (by decide +kernel) rfl, tbm 487 (by decide +kernel) rfl, tbm 488 (by decide +kernel) rfl⟩
set_option maxRecDepth 100000 in
theorem mlL_72 : MLV RL 72 yX11_gapForOne cX11_gapForOne 2 (some .int) 0 := ⟨⟨tbm 10 (by decide +kernel) rfl, tbm 493 (by decide +kernel) rfl, ⟨by decide, by decide, by decide +kernel⟩, by decide, Or.inl (tbm 490 (by decide +kernel) rfl)⟩, tbm 490 (by decide +kernel) rfl, tbm 491 (by decide +kernel) rfl, tbm 492 (by decide +kernel) rfl⟩
set_option maxRecDepth 100000 in
theorem mlX11_215 : MLV RX11 215 yX5_widestGap cX5_widestGap 3 (some .int) 0 := ⟨⟨tbm 17 (by decide +kernel) rfl, tbm 497 (by decide +kernel) rfl, ⟨by decide, by decide, by decide +kernel⟩, by decide, Or.inl (tbm 494 (by decide +kernel) rfl)⟩, tbm 494 (by decide +kernel) rfl, tbm 495 (by decide +kernel) rfl, tbm 496 (by decide +kernel) rfl⟩
set_option maxRecDepth 100000 in
theorem mlX5_46 : MLS RX5 46 yJ9_max_7cf53 cJ9_max_7cf53 2 (some .int) 2 := ⟨⟨tbm 18 (by decide +kernel) rfl, tbm 379 (by decide +kernel) rfl, ⟨by decide, by decide, by decide +kernel⟩, by decide, Or.inl (tbm 498 (by decide +kernel) rfl)⟩, tbm 378 (by decide +kernel) rfl⟩
set_option maxRecDepth 100000 in
theorem mlX11_218 : MLS RX11 218 yJ9_max_7cf53 cJ9_max_7cf53 2 (some .int) 2 := ⟨⟨tbm 18 (by decide +kernel) rfl, tbm 379 (by decide +kernel) rfl, ⟨by decide, by decide, by decide +kernel⟩, by decide, Or.inl (tbm 499 (by decide +kernel) rfl)⟩, tbm 378 (by decide +kernel) rfl⟩
set_option maxRecDepth 100000 in
theorem mlL_66 : MLV RL 66 yX11_ifRun cX11_ifRun 5 (some .int) 2 := ⟨⟨tbm 10 (by decide +kernel) rfl, tbm 503 (by decide +kernel) rfl, ⟨by decide, by decide, by decide +kernel⟩, by decide, Or.inl (tbm 500 (by decide +kernel) rfl)⟩, tbm 500 (by decide +kernel) rfl, tbm 501 (by decide +kernel) rfl, tbm 502 (by decide +kernel) rfl⟩
set_option maxRecDepth 100000 in
theorem mlX11_223 : MLV RX11 223 yX9_copyFrom cX9_copyFrom 2 none 1 := ⟨⟨tbm 11 (by decide +kernel) rfl, tbm 328 (by decide +kernel) rfl, ⟨by decide, by decide, by decide +kernel⟩, by decide, Or.inl (tbm 504 (by decide +kernel) rfl)⟩, tbm 504 (by decide +kernel) rfl, tbm 326 (by decide +kernel) rfl, tbm 327 (by decide +kernel) rfl⟩
set_option maxRecDepth 100000 in
theorem mlL_69 : MLV RL 69 yX11_capacityFor cX11_capacityFor 5 (some .int) 2 := ⟨⟨tbm 10 (by decide +kernel) rfl, tbm 508 (by decide +kernel) rfl, ⟨by decide, by decide, by decide +kernel⟩, by decide, Or.inl (tbm 505 (by decide +kernel) rfl)⟩, tbm 505 (by decide +kernel) rfl, tbm 506 (by decide +kernel) rfl, tbm 507 (by decide +kernel) rfl⟩
set_option maxRecDepth 100000 in
theorem mlX11_227 : MLV RX11 227 yX6_lookAhead cX6_lookAhead 5 none 2 := ⟨⟨tbm 21 (by decide +kernel) rfl, tbm 513 (by decide +kernel) rfl, ⟨by decide, by decide, by decide +kernel⟩, by decide, Or.inl (tbm 510 (by decide +kernel) rfl)⟩, tbm 510 (by decide +kernel) rfl, tbm 511 (by decide +kernel) rfl, tbm 512 (by decide +kernel) rfl⟩
set_option maxRecDepth 100000 in
theorem mlX6_19 : MLS RX6 19 yJ9_min_7cf53 cJ9_min_7cf53 2 (some .int) 2 := ⟨⟨tbm 18 (by decide +kernel) rfl, tbm 174 (by decide +kernel) rfl, ⟨by decide, by decide, by decide +kernel⟩, by decide, Or.inl (tbm 514 (by decide +kernel) rfl)⟩, tbm 173 (by decide +kernel) rfl⟩
set_option maxRecDepth 100000 in
theorem mlX6_38 : MLV RX6 38 yX8_rainIn cX8_rainIn 4 (some .int) 1 := ⟨⟨tbm 12 (by decide +kernel) rfl, tbm 399 (by decide +kernel) rfl, ⟨by decide, by decide, by decide +kernel⟩, by decide, Or.inl (tbm 515 (by decide +kernel) rfl)⟩, tbm 515 (by decide +kernel) rfl, tbm 397 (by decide +kernel) rfl, tbm 398 (by decide +kernel) rfl⟩
set_option maxRecDepth 100000 in
theorem mlX6_51 : MLV RX6 51 yX2_passTick cX2_passTick 6 (some .int) 3 := ⟨⟨tbm 13 (by decide +kernel) rfl, tbm 403 (by decide +kernel) rfl, ⟨by decide, by decide, by decide +kernel⟩, by decide, Or.inl (tbm 516 (by decide +kernel) rfl)⟩, tbm 516 (by decide +kernel) rfl, tbm 401 (by decide +kernel) rfl, tbm 402 (by decide +kernel) rfl⟩
set_option maxRecDepth 100000 in
theorem mlX11_231 : MLV RX11 231 yX0_copyFrom cX0_copyFrom 2 none 1 := ⟨⟨tbm 14 (by decide +kernel) rfl, tbm 341 (by decide +kernel) rfl, ⟨by decide, by decide, by decide +kernel⟩, by decide, Or.inl (tbm 517 (by decide +kernel) rfl)⟩, tbm 517 (by decide +kernel) rfl, tbm 339 (by decide +kernel) rfl, tbm 340 (by decide +kernel) rfl⟩
set_option maxRecDepth 100000 in
theorem mlX11_234 : MLV RX11 234 yX6_losesAtMost cX6_losesAtMost 9 (some .boolean) 3 := ⟨⟨tbm 21 (by decide +kernel) rfl, tbm 521 (by decide +kernel) rfl, ⟨by decide, by decide, by decide +kernel⟩, by decide, Or.inl (tbm 518 (by decide +kernel) rfl)⟩, tbm 518 (by decide +kernel) rfl, tbm 519 (by decide +kernel) rfl, tbm 520 (by decide +kernel) rfl⟩
set_option maxRecDepth 100000 in
theorem mlX6_69 : MLV RX6 69 yX0_passTick cX0_passTick 7 (some .int) 5 := ⟨⟨tbm 14 (by decide +kernel) rfl, tbm 409 (by decide +kernel) rfl, ⟨by decide, by decide, by decide +kernel⟩, by decide, Or.inl (tbm 522 (by decide +kernel) rfl)⟩, tbm 522 (by decide +kernel) rfl, tbm 407 (by decide +kernel) rfl, tbm 408 (by decide +kernel) rfl⟩
set_option maxRecDepth 100000 in
theorem mlL_59 : MLV RL 59 yX11_untilStop cX11_untilStop 1 (some .int) 0 := ⟨⟨tbm 10 (by decide +kernel) rfl, tbm 526 (by decide +kernel) rfl, ⟨by decide, by decide, by decide +kernel⟩, by decide, Or.inl (tbm 523 (by decide +kernel) rfl)⟩, tbm 523 (by decide +kernel) rfl, tbm 524 (by decide +kernel) rfl, tbm 525 (by decide +kernel) rfl⟩
set_option maxRecDepth 100000 in
theorem mlL_45 : MLS RL 45 yL_cell cL_cell 2 (some .int) 2 := ⟨⟨tbm 9 (by decide +kernel) rfl, tbm 529 (by decide +kernel) rfl, ⟨by decide, by decide, by decide +kernel⟩, by decide, Or.inl (tbm 527 (by decide +kernel) rfl)⟩, tbm 528 (by decide +kernel) rfl⟩
set_option maxRecDepth 100000 in
theorem mlL_35 : MLS RL 35 yL_holds cL_holds 6 (some .boolean) 1 := ⟨⟨tbm 9 (by decide +kernel) rfl, tbm 534 (by decide +kernel) rfl, ⟨by decide, by decide, by decide +kernel⟩, by decide, Or.inl (tbm 532 (by decide +kernel) rfl)⟩, tbm 533 (by decide +kernel) rfl⟩
set_option maxRecDepth 100000 in
theorem mlL_18 : MLV RL 18 yX11_mark cX11_mark 3 (some .int) 2 := ⟨⟨tbm 10 (by decide +kernel) rfl, tbm 538 (by decide +kernel) rfl, ⟨by decide, by decide, by decide +kernel⟩, by decide, Or.inl (tbm 535 (by decide +kernel) rfl)⟩, tbm 535 (by decide +kernel) rfl, tbm 536 (by decide +kernel) rfl, tbm 537 (by decide +kernel) rfl⟩
set_option maxRecDepth 100000 in
theorem mlX11_187 : MLV RX11 187 yX5_has cX5_has 2 (some .boolean) 1 := ⟨⟨tbm 17 (by decide +kernel) rfl, tbm 479 (by decide +kernel) rfl, ⟨by decide, by decide, by decide +kernel⟩, by decide, Or.inl (tbm 539 (by decide +kernel) rfl)⟩, tbm 539 (by decide +kernel) rfl, tbm 477 (by decide +kernel) rfl, tbm 478 (by decide +kernel) rfl⟩
set_option maxRecDepth 100000 in
theorem mlL_22 : MLV RL 22 yX11_storm cX11_storm 6 (some .int) 2 := ⟨⟨tbm 10 (by decide +kernel) rfl, tbm 543 (by decide +kernel) rfl, ⟨by decide, by decide, by decide +kernel⟩, by decide, Or.inl (tbm 540 (by decide +kernel) rfl)⟩, tbm 540 (by decide +kernel) rfl, tbm 541 (by decide +kernel) rfl, tbm 542 (by decide +kernel) rfl⟩
set_option maxRecDepth 100000 in
theorem mlX11_197 : MLV RX11 197 yX5_firstOfStorm cX5_firstOfStorm 5 (some .int) 2 := ⟨⟨tbm 17 (by decide +kernel) rfl, tbm 547 (by decide +kernel) rfl, ⟨by decide, by decide, by decide +kernel⟩, by decide, Or.inl (tbm 544 (by decide +kernel) rfl)⟩, tbm 544 (by decide +kernel) rfl, tbm 545 (by decide +kernel) rfl, tbm 546 (by decide +kernel) rfl⟩
set_option maxRecDepth 100000 in
theorem mlX11_200 : MLV RX11 200 yX5_endOfStorm cX5_endOfStorm 4 (some .int) 2 := ⟨⟨tbm 17 (by decide +kernel) rfl, tbm 551 (by decide +kernel) rfl, ⟨by decide, by decide, by decide +kernel⟩, by decide, Or.inl (tbm 548 (by decide +kernel) rfl)⟩, tbm 548 (by decide +kernel) rfl, tbm 549 (by decide +kernel) rfl, tbm 550 (by decide +kernel) rfl⟩
set_option maxRecDepth 100000 in
theorem mlX11_203 : MLV RX11 203 yX5_ticksBetween cX5_ticksBetween 3 (some .int) 2 := ⟨⟨tbm 17 (by decide +kernel) rfl, tbm 475 (by decide +kernel) rfl, ⟨by decide, by decide, by decide +kernel⟩, by decide, Or.inl (tbm 552 (by decide +kernel) rfl)⟩, tbm 552 (by decide +kernel) rfl, tbm 473 (by decide +kernel) rfl, tbm 474 (by decide +kernel) rfl⟩
set_option maxRecDepth 100000 in
theorem mlX11_206 : MLV RX11 206 yX11_amountOf cX11_amountOf 3 (some .int) 2 := ⟨⟨tbm 10 (by decide +kernel) rfl, tbm 556 (by decide +kernel) rfl, ⟨by decide, by decide, by decide +kernel⟩, by decide, Or.inl (tbm 553 (by decide +kernel) rfl)⟩, tbm 553 (by decide +kernel) rfl, tbm 555 (by decide +kernel) rfl, tbm 7 (by decide +kernel) rfl⟩
set_option maxRecDepth 100000 in
theorem mlX11_209 : MLV RX11 209 yX11_lossOf cX11_lossOf 3 (some .int) 2 := ⟨⟨tbm 10 (by decide +kernel) rfl, tbm 560 (by decide +kernel) rfl, ⟨by decide, by decide, by decide +kernel⟩, by decide, Or.inl (tbm 557 (by decide +kernel) rfl)⟩, tbm 557 (by decide +kernel) rfl, tbm 559 (by decide +kernel) rfl, tbm 8 (by decide +kernel) rfl⟩
set_option maxRecDepth 100000 in
theorem mlX11_258 : MLV RX11 258 yX5_lossBetweenTips cX5_lossBetweenTips 6 (some .int) 3 := ⟨⟨tbm 17 (by decide +kernel) rfl, tbm 564 (by decide +kernel) rfl, ⟨by decide, by decide, by decide +kernel⟩, by decide, Or.inl (tbm 561 (by decide +kernel) rfl)⟩, tbm 561 (by decide +kernel) rfl, tbm 562 (by decide +kernel) rfl, tbm 563 (by decide +kernel) rfl⟩
set_option maxRecDepth 100000 in
theorem mlX5_55 : MLS RX5 55 yX11_quotient cX11_quotient 2 (some .int) 2 := ⟨⟨tbm 10 (by decide +kernel) rfl, tbm 567 (by decide +kernel) rfl, ⟨by decide, by decide, by decide +kernel⟩, by decide, Or.inr ⟨"RainRecorder", tnm 565 (by decide +kernel) rfl⟩⟩, tbm 566 (by decide +kernel) rfl⟩
set_option maxRecDepth 100000 in
theorem mlX11_261 : MLS RX11 261 yJ9_floorDiv_7cf53 cJ9_floorDiv_7cf53 3 (some .int) 2 := ⟨⟨tbm 18 (by decide +kernel) rfl, tbm 570 (by decide +kernel) rfl, ⟨by decide, by decide, by decide +kernel⟩, by decide, Or.inl (tbm 568 (by decide +kernel) rfl)⟩, tbm 569 (by decide +kernel) rfl⟩
set_option maxRecDepth 100000 in
theorem mlX11_212 : MLV RX11 212 yX5_peak cX5_peak 6 (some .int) 2 := ⟨⟨tbm 17 (by decide +kernel) rfl, tbm 574 (by decide +kernel) rfl, ⟨by decide, by decide, by decide +kernel⟩, by decide, Or.inl (tbm 571 (by decide +kernel) rfl)⟩, tbm 571 (by decide +kernel) rfl, tbm 572 (by decide +kernel) rfl, tbm 573 (by decide +kernel) rfl⟩
set_option maxRecDepth 100000 in
theorem mlL_28 : MLV RL 28 yX11_greatestStorm cX11_greatestStorm 9 (some .int) 0 := ⟨⟨tbm 10 (by decide +kernel) rfl, tbm 578 (by decide +kernel) rfl, ⟨by decide, by decide, by decide +kernel⟩, by decide, Or.inl (tbm 575 (by decide +kernel) rfl)⟩, tbm 575 (by decide +kernel) rfl, tbm 576 (by decide +kernel) rfl, tbm 577 (by decide +kernel) rfl⟩
set_option maxRecDepth 100000 in
theorem mlL_62 : MLS RL 62 yL_parted cL_parted 9 (some .boolean) 3 := ⟨⟨tbm 9 (by decide +kernel) rfl, tbm 581 (by decide +kernel) rfl, ⟨by decide, by decide, by decide +kernel⟩, by decide, Or.inl (tbm 579 (by decide +kernel) rfl)⟩, tbm 580 (by decide +kernel) rfl⟩
set_option maxRecDepth 100000 in
theorem kcX11_226 : Cond.constant RX11 226 (Int32.ofInt 100000) ∈ TB := tbm 509 (by decide +kernel) rfl
set_option maxRecDepth 100000 in
theorem kcL_7 : Cond.constant RL 7 (Int32.ofInt 15485959) ∈ TB := tbm 530 (by decide +kernel) rfl
set_option maxRecDepth 100000 in
theorem kcL_8 : Cond.constant RL 8 (Int32.ofInt 2147483647) ∈ TB := tbm 531 (by decide +kernel) rfl
end
section
/-! rows that make cells, and System.arraycopy -/
theorem hx_find {G : Gc} {s : State} (hK : va_K (gD G) vwCl (gtys G) s) {t : Nat} {ty : FieldType} (ht : (gtys G)[t]? = some (gK G t, ty)) (hty : ∀ C, ty ≠ .object C) : s.vm.findClass ("[" ++ ty.toString) = some (gK G t) := by
  have h := (hK.2 t _ ht).2
  unfold va_RA at h
  cases ty <;> first | exact h | exact absurd rfl (hty _)
def cpyI (f g : Nat → Int) (sp dp n : Nat) : Nat → Int := fun k => if dp ≤ k ∧ k < dp + n then f (sp + (k - dp)) else g k
theorem iI_nn {j : Nat} (h : (j : Int) < 2147483648) : ¬ iI (j : Int) < 0 := by
  rw [iI_0, iI_lt ⟨by omega, h⟩ ⟨by omega, by omega⟩]
  omega
def NW (ow : String) (idx ci N : Nat) (fs : List Value) : Prop := ∃ (C : String) (T : u_T) (ty : Nat → FieldType), vwCl[ci]? = some (C, T, N) ∧ (∀ w ∈ u_ws C T N, w ∈ TB) ∧ Cond.classLink ow idx C ∈ TB ∧ Cond.instantiable C N ∈ TB ∧ Cond.initialized C ∈ TB ∧ (∀ k, k < N → parseFieldDescriptor (T k).2.2.1 = some (ty k)) ∧ (∀ j, j < N → defaultValue (ty j) = vp_V fs j)
section Alloc
variable {X : Fx} {E : Wd} {z : Nat × Nat × Nat} {pc : Nat} {ls ls' : List (Option Value)} {st : List Value} {cc : ByteArray} {ow : String}
theorem v_objInit (cx : Cx X cc ow) {lv mc ms idx o : Nat} (hR : RM X lv mc ms) (hlv : 1 ≤ lv) (hl : Cond.methodLink ow idx Lib.objectInit ∈ TB) (hi : Cond.instanceMethod Lib.objectInit ∈ TB) (hco : Cond.code Lib.objectInit ⟨#[0xb1]⟩ 1 none ∈ TB) (hcat : (st.map fun v => v.category).sum ≤ 8) (hd : decode cc pc = .ok (.invokespecial idx, 3)) (kk : V X E z (pc + 3) ls st) : V X E z pc ls (.ref o :: st) := by
  intro H locs L h1
  have ht := cx.2.2.2.1
  refine W.objInit cx.1 cx.2.1 cx.2.2.1 (ht _ hl) (ht _ hi) (ht _ hco) rfl (h1.2.2.2.1.1.trans h1.2.2.2.2) rfl hd (Nat.le_trans hlv hR.1) (Nat.le_trans ?_ hR.2.1) (kk H locs L h1)
  show 2 * 0 + _ + 12 ≤ 33 * lv
  omega
theorem v_new (cx : Cx X cc ow) {lv mc ms idx ci N : Nat} {fs : List Value} (hR : RM X lv mc ms) (hw : NW ow idx ci N fs) (hroom : z.2.1 + 1 ≤ mc ∧ z.2.2 + N ≤ ms) (hd : decode cc pc = .ok (.new idx, 3)) (kk : ∀ E1 : Wd, E1 z.1 = some (.inr (ci, fs)) → (∀ j, j ≠ z.1 → E1 j = E j) → V X E1 (z.1 + 1, z.2.1 + 1, z.2.2 + N) (pc + 3) ls (.ref (gb (fG X) + z.1) :: st)) : V X E z pc ls st := by
  intro H locs L h1
  obtain ⟨C, T, ty, hc, hin, w1, w2, w3, hty, hfs⟩ := hw
  have ht := cx.2.2.2.1
  have hKn := cx.2.2.2.2.1.1.1 ci _ hc
  refine W.newcK cx.1 cx.2.1 cx.2.2.1 (ht _ w1) (ht _ w2) (ht _ w3) rfl hd (Nat.le_trans hroom.1 hR.2.2.1) (Nat.le_trans hroom.2 hR.2.2.2) hKn.2.1 h1.2.1 fun H1 kC hkC e1 z1 o1 => ?_
  have hS := h1.2.2.1
  refine kk (upW E z.1 (.inr (ci, fs))) upW_s upW_n H1 locs L ⟨fun k x hk => ?_, by rw [z1]; exact Nat.add_assoc _ _ _, ⟨Nat.le_trans hS.1 (by rw [h1.2.1, z1]; omega), fun q g1 g2 => (o1 q (by rw [← h1.2.1]; exact Nat.lt_of_lt_of_le g1 hS.1)).trans (hS.2.1 q g1 g2), hS.2.2⟩, h1.2.2.2⟩
  by_cases hkz : k = z.1
  · subst hkz
    rw [upW_s] at hk
    cases hk
    exact ⟨_, hc, (u_born ty ht hin hKn hkC e1 hty).to hfs⟩
  · rw [upW_n k hkz] at hk
    have := h1.1 k x hk
    exact this.kept (o1 _ (by have := this.lt; rw [h1.2.1] at this; exact this))
theorem v_newarr (cx : Cx X cc ow) {lv mc ms t N : Nat} {a : Int} {atype : ArrayType} {a0 : vp_A} (hR : RM X lv mc ms) (hw : Cond.arrayClass (newarray.typeOf atype) ∈ TB) (ht : (gtys (fG X))[t]? = some (gK (fG X) t, newarray.typeOf atype)) (hob : ∀ C, newarray.typeOf atype ≠ .object C) (ha : a = (N : Int) ∧ (N : Int) < 100000) (hcell : vp_cell (gK (fG X) t) a0 = arrV (gK (fG X) t) N (fun _ => defaultValue (newarray.typeOf atype))) (hb : componentBytes (newarray.typeOf atype) ≤ 8) (hroom : z.2.1 + 1 ≤ mc ∧ z.2.2 + N ≤ ms) (hd : decode cc pc = .ok (.newarray atype, 2))
    (kk : ∀ E1 : Wd, E1 z.1 = some (.inl (gK (fG X) t, a0)) → (∀ j, j ≠ z.1 → E1 j = E j) → V X E1 (z.1 + 1, z.2.1 + 1, z.2.2 + N) (pc + 2) ls (.ref (gb (fG X) + z.1) :: st)) : V X E z pc ls (.int (iI a) :: st) := by
  intro H locs L h1
  obtain ⟨rfl, hN⟩ := ha
  have hts := cx.2.2.2.1
  refine va_newaK cx.1 cx.2.1 (hts _ hw) rfl hd rfl (iI_nn (by omega)) (iI_clamp (by omega)) ?_ (Nat.le_trans hroom.1 hR.2.2.1) (Nat.le_trans hroom.2 hR.2.2.2) h1.2.1 fun H1 cA e1 z1 o1 hAr hNm => ?_
  · have := Nat.mul_le_mul_left N hb
    omega
  · have hcA : cA = gK (fG X) t := Option.some.inj (hNm.symm.trans (hx_find cx.2.2.2.2.1.1 ht hob))
    subst hcA
    have hS := h1.2.2.1
    refine kk (upW E z.1 _) upW_s upW_n H1 locs L ⟨fun k x hk => ?_, by rw [z1]; exact Nat.add_assoc _ _ _, ⟨Nat.le_trans hS.1 (by rw [h1.2.1, z1]; omega), fun q g1 g2 => (o1 q (by rw [← h1.2.1]; exact Nat.lt_of_lt_of_le g1 hS.1)).trans (hS.2.1 q g1 g2), hS.2.2⟩, h1.2.2.2⟩
    by_cases hkz : k = z.1
    · subst hkz
      rw [upW_s] at hk
      cases hk
      show H1[_]? = some (vp_cell _ _)
      rw [hcell]
      exact e1
    · rw [upW_n k hkz] at hk
      have := h1.1 k x hk
      exact this.kept (o1 _ (by have := this.lt; rw [h1.2.1] at this; exact this))
theorem v_newint (cx : Cx X cc ow) {lv mc ms : Nat} (N : Nat) {a : Int} (hR : RM X lv mc ms) (hw : Cond.arrayClass .int ∈ TB) (ha : a = (N : Int) ∧ (N : Int) < 100000) (hroom : z.2.1 + 1 ≤ mc ∧ z.2.2 + N ≤ ms) (hd : decode cc pc = .ok (.newarray .int, 2)) (kk : ∀ E1 : Wd, E1 z.1 = some (AI (fG X) N (fun _ => 0)) → (∀ j, j ≠ z.1 → E1 j = E j) → V X E1 (z.1 + 1, z.2.1 + 1, z.2.2 + N) (pc + 2) ls (.ref (gb (fG X) + z.1) :: st)) : V X E z pc ls (.int (iI a) :: st) :=
  v_newarr cx (t := 0) (atype := .int) hR hw rfl (fun _ h => by cases h) ha rfl (by decide) hroom hd kk
theorem v_newchar (cx : Cx X cc ow) {lv mc ms : Nat} (N : Nat) {a : Int} (hR : RM X lv mc ms) (hw : Cond.arrayClass .char ∈ TB) (ha : a = (N : Int) ∧ (N : Int) < 100000) (hroom : z.2.1 + 1 ≤ mc ∧ z.2.2 + N ≤ ms) (hd : decode cc pc = .ok (.newarray .char, 2)) (kk : ∀ E1 : Wd, E1 z.1 = some (AC (fG X) N (fun _ => 0)) → (∀ j, j ≠ z.1 → E1 j = E j) → V X E1 (z.1 + 1, z.2.1 + 1, z.2.2 + N) (pc + 2) ls (.ref (gb (fG X) + z.1) :: st)) : V X E z pc ls (.int (iI a) :: st) :=
  v_newarr cx (t := 1) (atype := .char) hR hw rfl (fun _ h => by cases h) ha rfl (by decide) hroom hd kk
theorem v_newbool (cx : Cx X cc ow) {lv mc ms : Nat} (N : Nat) {a : Int} (hR : RM X lv mc ms) (hw : Cond.arrayClass .boolean ∈ TB) (ha : a = (N : Int) ∧ (N : Int) < 100000) (hroom : z.2.1 + 1 ≤ mc ∧ z.2.2 + N ≤ ms) (hd : decode cc pc = .ok (.newarray .boolean, 2)) (kk : ∀ E1 : Wd, E1 z.1 = some (AZ (fG X) N (fun _ => 0)) → (∀ j, j ≠ z.1 → E1 j = E j) → V X E1 (z.1 + 1, z.2.1 + 1, z.2.2 + N) (pc + 2) ls (.ref (gb (fG X) + z.1) :: st)) : V X E z pc ls (.int (iI a) :: st) :=
  v_newarr cx (t := 2) (atype := .boolean) hR hw rfl (fun _ h => by cases h) ha rfl (by decide) hroom hd kk
theorem v_newstates (cx : Cx X cc ow) {lv mc ms idx : Nat} (N : Nat) {a : Int} (hR : RM X lv mc ms) (hw : Cond.classLink ow idx RX9 ∈ TB) (ha : a = (N : Int) ∧ (N : Int) < 100000) (hroom : z.2.1 + 1 ≤ mc ∧ z.2.2 + N ≤ ms) (hd : decode cc pc = .ok (.anewarray idx, 3)) (kk : ∀ E1 : Wd, E1 z.1 = some (AS (fG X) N (fun _ => none)) → (∀ j, j ≠ z.1 → E1 j = E j) → V X E1 (z.1 + 1, z.2.1 + 1, z.2.2 + N) (pc + 3) ls (.ref (gb (fG X) + z.1) :: st)) : V X E z pc ls (.int (iI a) :: st) := by
  intro H locs L h1
  obtain ⟨rfl, hN⟩ := ha
  have hts := cx.2.2.2.1
  have hcl : (iI (N : Int)).toNatClampNeg = N := iI_clamp (by omega)
  refine W.anew cx.1 cx.2.1 cx.2.2.1 (hts _ hw) (va_AO.use cx.2.2.2.2.1.2.2.2) rfl hd rfl (iI_nn (by omega)) (by rw [hcl]; omega) (Nat.le_trans hroom.1 hR.2.2.1) (by rw [hcl]; exact Nat.le_trans hroom.2 hR.2.2.2) fun cA kA comp f1 f2 f3 f4 => ?_
  rw [hcl]
  have hcA : cA = gK (fG X) 3 := by
    obtain ⟨kA', comp', g1, g2, g3, g4⟩ := (cx.2.2.2.2.1.1.2 3 _ rfl).2
    exact Option.some.inj (f1.symm.trans g4)
  subst hcA
  generalize hH1 : H.push ({ cls := gK (fG X) 3, slots := Array.replicate N .null, vm := .none } : Cell) = H1
  have z1 : H1.size = H.size + 1 := by rw [← hH1, Array.size_push]
  have e1 : H1[H.size]? = some (arrV (gK (fG X) 3) N (fun _ => .null)) := by rw [← hH1, Array.getElem?_push_size, ← arrV_new]
  have o1 : ∀ q : Nat, q < H.size → H1[q]? = H[q]? := fun q hq => by rw [← hH1, Array.getElem?_push, if_neg (Nat.ne_of_lt hq)]
  have hS := h1.2.2.1
  show W _ _ _ _ _ _ _ _ _ _ _ _ _ _ _ (F0 _ _ _ (.ref H.size :: st))
  rw [h1.2.1]
  rw [h1.2.1] at e1
  refine kk (upW E z.1 _) upW_s upW_n H1 locs L ⟨fun k x hk => ?_, by rw [z1, h1.2.1]; exact Nat.add_assoc _ _ _, ⟨Nat.le_trans hS.1 (by rw [z1]; omega), fun q g1 g2 => (o1 q (Nat.lt_of_lt_of_le g1 hS.1)).trans (hS.2.1 q g1 g2), hS.2.2⟩, h1.2.2.2⟩
  by_cases hkz : k = z.1
  · subst hkz
    rw [upW_s] at hk
    cases hk
    show H1[_]? = some (vp_cell _ _)
    rw [vp_cell_q]
    exact e1
  · rw [upW_n k hkz] at hk
    have := h1.1 k x hk
    exact this.kept (o1 _ this.lt)
theorem v_copyG (cx : Cx X cc ow) {lv mc ms idx od a0 n0 n1 : Nat} {f g : Nat → Int} {sp dp n : Int} {cs : Cell} (jsp jdp jn : Nat) (hR : RM X lv mc ms) (hlv : 1 ≤ lv) (w1 : Cond.methodLink ow idx arraycopyName ∈ TB) (w2 : Cond.native arraycopyName ∈ TB) (w3 : Cond.static arraycopyName ∈ TB) (w4 : Cond.initialized "java/lang/System" ∈ TB)
    (hcs : ∀ H locs L, Rd X E z ls H locs L → H[a0]? = some cs) (har : (fS X).isArrayOf cs .int) (hun : cs.vm ≠ .unknown) (hsz : n0 ≤ cs.slots.size) (hel : ∀ j, j < n0 → cs.slots[j]? = some (.int (iI (f j)))) (he1 : E od = some (AI (fG X) n1 g))
    (hj : sp = (jsp : Int) ∧ dp = (jdp : Int) ∧ n = (jn : Int) ∧ jsp + jn ≤ n0 ∧ jdp + jn ≤ n1 ∧ n0 < 2147483648 ∧ n1 < 2147483648) (hcat : (st.map fun v => v.category).sum ≤ 8) (hd : decode cc pc = .ok (.invokestatic idx, 3))
    (kk : ∀ E1 : Wd, E1 od = some (AI (fG X) n1 (cpyI f g jsp jdp jn)) → (∀ j, j ≠ od → E1 j = E j) → V X E1 z (pc + 3) ls st) : V X E z pc ls (.int (iI n) :: .int (iI dp) :: .ref (gb (fG X) + od) :: .int (iI sp) :: .ref a0 :: st) := by
  intro H locs L h1 T hT X0
  obtain ⟨rfl, rfl, rfl, hb1, hb2, hb3, hb4⟩ := hj
  have hts := cx.2.2.2.1
  have hc0 := hcs H locs L h1
  have hc1 : H[gb (fG X) + od]? = some (vp_cell (gK (fG X) 0) (n1, .inl (fun j => iI (g j)))) := h1.1 od _ he1
  obtain ⟨hob, k0, hk0, cm0, hkk0⟩ := har
  obtain ⟨-, k1, hk1, cm1, hkk1⟩ := (cx.2.2.2.2.1.1.2 0 _ rfl).1 n1 (fun j => .int (iI (g j)))
  have cl1 : (iI (jsp : Int)).toNatClampNeg = jsp := iI_clamp (by omega)
  have cl2 : (iI (jdp : Int)).toNatClampNeg = jdp := iI_clamp (by omega)
  have cl3 : (iI (jn : Int)).toNatClampNeg = jn := iI_clamp (by omega)
  have t1 : (iI (jsp : Int)).toInt = jsp := iI_toInt ⟨by omega, by omega⟩
  have t2 : (iI (jdp : Int)).toInt = jdp := iI_toInt ⟨by omega, by omega⟩
  have t3 : (iI (jn : Int)).toInt = jn := iI_toInt ⟨by omega, by omega⟩
  obtain ⟨vm', X', step⟩ := X0.arraycopy cx.1 cx.2.2.1 (hts _ w1) (hts _ w2) (hts _ w3) (hts _ w4) (src := a0) (dst := gb (fG X) + od) (cs := cs) (cd := vp_cell (gK (fG X) 0) (n1, .inl (fun j => iI (g j)))) (srcPos := iI (jsp : Int)) (destPos := iI (jdp : Int)) (n := iI (jn : Int)) (by rw [hT]; exact hc0) (by rw [hT]; exact hc1)
    hob (fun _ h => by cases h) hun (fun h => by cases h) hk0 hk1 hkk0 hkk1 (by simp [refKind]) (iI_nn (by omega)) (iI_nn (by omega)) (iI_nn (by omega))
    (by rw [t1, t3]; omega)
    (by rw [t2, t3]; show ¬ _ > ((arrV (gK (fG X) 0) n1 (fun j => .int (iI (g j)))).slots.size : Int); rw [arrV_size]; omega)
    (fun vm₁ _ i hi => by
      rw [cl3] at hi
      have e : cs.slots.getD ((iI (jsp : Int)).toNatClampNeg + i) .null = .int (iI (f (jsp + i))) := by
        rw [cl1, Array.getD_eq_getD_getElem?, hel _ (by omega)]
        rfl
      refine ⟨?_, ?_⟩
      · rw [e]
        rfl
      · rw [e]
        exact trivial)
    (g := F0 (fM X) pc L (.int (iI (jn : Int)) :: .int (iI (jdp : Int)) :: .ref (gb (fG X) + od) :: .int (iI (jsp : Int)) :: .ref a0 :: st)) rfl (h1.2.2.2.1.1.trans h1.2.2.2.2) (rest := st) rfl (by rw [cx.2.1]; exact hd) (Nat.le_trans hlv hR.1) (Nat.le_trans (by
      show 2 * 0 + _ + (7 + 11) ≤ 33 * lv
      omega) hR.2.1)
  have e1 : copied cs (vp_cell (gK (fG X) 0) (n1, .inl (fun j => iI (g j)))) (iI (jsp : Int)) (iI (jdp : Int)) (iI (jn : Int)) = vp_cell (gK (fG X) 0) (n1, .inl (fun j => iI (cpyI f g jsp jdp jn j))) := by
    show (arrV (gK (fG X) 0) n1 (fun j => .int (iI (g j)))).storeRun (iI (jdp : Int)).toNatClampNeg (cs.stretch (iI (jsp : Int)).toNatClampNeg (iI (jn : Int)).toNatClampNeg) = arrV (gK (fG X) 0) n1 (fun j => .int (iI (cpyI f g jsp jdp jn j)))
    rw [cl1, cl2, cl3]
    have e : cs.stretch jsp jn = (List.range jn).map (fun i => .int (iI (f (jsp + i)))) := by
      unfold Cell.stretch
      apply List.map_congr_left
      intro i hi
      have hi' := List.mem_range.mp hi
      rw [Array.getD_eq_getD_getElem?, hel _ (by omega)]
      rfl
    rw [e, Cell.storeRun, va_pairs]
    congr 1
    funext k
    simp only [cpyI, List.length_map, List.length_range, Nat.add_zero]
    by_cases h : jdp ≤ k ∧ k < jdp + jn
    · rw [if_pos h, if_pos h, List.getD_eq_getElem?_getD, List.getElem?_map, List.getElem?_range (by omega)]
      rfl
    · rw [if_neg h, if_neg h]
  rw [e1] at X' step
  generalize hnc : vp_cell (gK (fG X) 0) (n1, .inl (fun j => iI (cpyI f g jsp jdp jn j))) = nc at X' step
  have hl : gb (fG X) + od < H.size := (Array.getElem?_eq_some_iff.mp hc1).1
  have hheap : ((T.setVm vm').setCell (gb (fG X) + od) nc).heap = H.setIfInBounds (gb (fG X) + od) nc := by rw [← hT]; rfl
  have oq : ∀ q : Nat, q ≠ gb (fG X) + od → (H.setIfInBounds (gb (fG X) + od) nc)[q]? = H[q]? := fun q hq => by simp [Array.getElem?_setIfInBounds, Ne.symm hq]
  have hS := h1.2.2.1
  obtain ⟨t, a1, b1⟩ := kk _ upW_s upW_n _ _ L ⟨h1.1.upd (show (H.setIfInBounds (gb (fG X) + od) nc)[gb (fG X) + od]? = some _ by simp [Array.getElem?_setIfInBounds, hl, ← hnc]) oq, by simp; exact h1.2.1, ⟨by simp; exact hS.1, fun q g1 g2 => by
      rw [oq q (fun e => g2 (by rw [e]; exact gO_o))]
      exact hS.2.1 q g1 g2, fun q hq => by
      rcases List.mem_append.mp hq with h | h
      · exact hS.2.2 q h
      · obtain ⟨z, -, hz⟩ := List.mem_map.mp h
        rw [← hz]
        exact gO_o⟩, h1.2.2.2⟩ _ hheap X'
  exact ⟨t, step t a1, b1⟩
theorem v_copy (cx : Cx X cc ow) {lv mc ms idx od os n0 n1 : Nat} {f g : Nat → Int} {sp dp n : Int} (jsp jdp jn : Nat) (hR : RM X lv mc ms) (hlv : 1 ≤ lv) (w1 : Cond.methodLink ow idx arraycopyName ∈ TB) (w2 : Cond.native arraycopyName ∈ TB) (w3 : Cond.static arraycopyName ∈ TB) (w4 : Cond.initialized "java/lang/System" ∈ TB)
    (he0 : E os = some (AI (fG X) n0 f)) (he1 : E od = some (AI (fG X) n1 g))
    (hj : sp = (jsp : Int) ∧ dp = (jdp : Int) ∧ n = (jn : Int) ∧ jsp + jn ≤ n0 ∧ jdp + jn ≤ n1 ∧ n0 < 2147483648 ∧ n1 < 2147483648) (hcat : (st.map fun v => v.category).sum ≤ 8) (hd : decode cc pc = .ok (.invokestatic idx, 3))
    (kk : ∀ E1 : Wd, E1 od = some (AI (fG X) n1 (cpyI f g jsp jdp jn)) → (∀ j, j ≠ od → E1 j = E j) → V X E1 z (pc + 3) ls st) : V X E z pc ls (.int (iI n) :: .int (iI dp) :: .ref (gb (fG X) + od) :: .int (iI sp) :: .ref (gb (fG X) + os) :: st) :=
  v_copyG cx (cs := vp_cell (gK (fG X) 0) (n0, .inl (fun j => iI (f j)))) jsp jdp jn hR hlv w1 w2 w3 w4 (fun H locs L h1 => h1.1 os _ he0) ((cx.2.2.2.2.1.1.2 0 _ rfl).1 n0 (fun j => .int (iI (f j)))) (fun h => by cases h) (by show n0 ≤ (arrV _ _ _).slots.size; rw [arrV_size]; exact Nat.le_refl _) (fun j hj => by show (arrV _ _ _).slots[_]? = _; rw [arrV_read _ _ hj]) he1 hj hcat hd kk
theorem v_copyT (cx : Cx X cc ow) {lv mc ms idx od i n1 : Nat} {g : Nat → Int} {sp dp n : Int} (jsp jdp jn : Nat) (hR : RM X lv mc ms) (hlv : 1 ≤ lv) (w1 : Cond.methodLink ow idx arraycopyName ∈ TB) (w2 : Cond.native arraycopyName ∈ TB) (w3 : Cond.static arraycopyName ∈ TB) (w4 : Cond.initialized "java/lang/System" ∈ TB)
    (hi : i < 3) (he1 : E od = some (AI (fG X) n1 g))
    (hj : sp = (jsp : Int) ∧ dp = (jdp : Int) ∧ n = (jn : Int) ∧ jsp + jn ≤ 8 ∧ jdp + jn ≤ n1 ∧ n1 < 2147483648) (hcat : (st.map fun v => v.category).sum ≤ 8) (hd : decode cc pc = .ok (.invokestatic idx, 3))
    (kk : ∀ E1 : Wd, E1 od = some (AI (fG X) n1 (cpyI (tbV i) g jsp jdp jn)) → (∀ j, j ≠ od → E1 j = E j) → V X E1 z (pc + 3) ls st) : V X E z pc ls (.int (iI n) :: .int (iI dp) :: .ref (gb (fG X) + od) :: .int (iI sp) :: .ref (gT (fG X) i) :: st) := by
  obtain ⟨cell, c1, c2, c3, c4, c5, c6, c7⟩ := (cx.2.2.2.2.1.2.1 i hi).2
  exact v_copyG cx (cs := cell) (n0 := 8) jsp jdp jn hR hlv w1 w2 w3 w4 (fun H locs L h1 => by rw [h1.2.2.1.2.1 _ (Array.getElem?_eq_some_iff.mp c1).1 c7]; exact c1) c2 c3 c4 c6 he1 ⟨hj.1, hj.2.1, hj.2.2.1, hj.2.2.2.1, hj.2.2.2.2.1, by omega, hj.2.2.2.2.2⟩ hcat hd kk
end Alloc
end
section
set_option maxRecDepth 100000 in
theorem nwL_10 : NW RL 10 11 6 [.null, .null, .null, .null, .null, .null] := ⟨_, _, tyX11, rfl, tb_in11, tbm 24 (by decide +kernel) rfl, tbm 25 (by decide +kernel) rfl, tbm 10 (by decide +kernel) rfl, tyX11_ok, fun j hj => by rcases (show j = 0 ∨ j = 1 ∨ j = 2 ∨ j = 3 ∨ j = 4 ∨ j = 5 by omega) with rfl | rfl | rfl | rfl | rfl | rfl <;> rfl⟩
set_option maxRecDepth 100000 in
theorem nwX11_7 : NW RX11 7 9 9 [.null, .null, .null, .null, .null, .null, .null, .int (iI 0), .int (iI 0)] := ⟨_, _, tyX9, rfl, tb_in9, tbm 32 (by decide +kernel) rfl, tbm 33 (by decide +kernel) rfl, tbm 11 (by decide +kernel) rfl, tyX9_ok, fun j hj => by rcases (show j = 0 ∨ j = 1 ∨ j = 2 ∨ j = 3 ∨ j = 4 ∨ j = 5 ∨ j = 6 ∨ j = 7 ∨ j = 8 by omega) with rfl | rfl | rfl | rfl | rfl | rfl | rfl | rfl | rfl <;> rfl⟩
set_option maxRecDepth 100000 in
theorem nwX9_15 : NW RX9 15 8 4 [.null, .null, .null, .int (iI 0)] := ⟨_, _, tyX8, rfl, tb_in8, tbm 38 (by decide +kernel) rfl, tbm 39 (by decide +kernel) rfl, tbm 12 (by decide +kernel) rfl, tyX8_ok, fun j hj => by rcases (show j = 0 ∨ j = 1 ∨ j = 2 ∨ j = 3 by omega) with rfl | rfl | rfl | rfl <;> rfl⟩
set_option maxRecDepth 100000 in
theorem nwX9_22 : NW RX9 22 2 2 [.int (iI 0), .int (iI 0)] := ⟨_, _, tyX2, rfl, tb_in2, tbm 62 (by decide +kernel) rfl, tbm 63 (by decide +kernel) rfl, tbm 13 (by decide +kernel) rfl, tyX2_ok, fun j hj => by rcases (show j = 0 ∨ j = 1 by omega) with rfl | rfl <;> rfl⟩
set_option maxRecDepth 100000 in
theorem nwX9_29 : NW RX9 29 0 6 [.int (iI 0), .int (iI 0), .int (iI 0), .int (iI 0), .int (iI 0), .int (iI 0)] := ⟨_, _, tyX0, rfl, tb_in0, tbm 77 (by decide +kernel) rfl, tbm 78 (by decide +kernel) rfl, tbm 14 (by decide +kernel) rfl, tyX0_ok, fun j hj => by rcases (show j = 0 ∨ j = 1 ∨ j = 2 ∨ j = 3 ∨ j = 4 ∨ j = 5 by omega) with rfl | rfl | rfl | rfl | rfl | rfl <;> rfl⟩
set_option maxRecDepth 100000 in
theorem nwX9_36 : NW RX9 36 1 2 [.int (iI 0), .int (iI 0)] := ⟨_, _, tyX1, rfl, tb_in1, tbm 110 (by decide +kernel) rfl, tbm 111 (by decide +kernel) rfl, tbm 15 (by decide +kernel) rfl, tyX1_ok, fun j hj => by rcases (show j = 0 ∨ j = 1 by omega) with rfl | rfl <;> rfl⟩
set_option maxRecDepth 100000 in
theorem nwX9_43 : NW RX9 43 3 3 [.null, .null, .int (iI 0)] := ⟨_, _, tyX3, rfl, tb_in3, tbm 128 (by decide +kernel) rfl, tbm 129 (by decide +kernel) rfl, tbm 16 (by decide +kernel) rfl, tyX3_ok, fun j hj => by rcases (show j = 0 ∨ j = 1 ∨ j = 2 by omega) with rfl | rfl | rfl <;> rfl⟩
set_option maxRecDepth 100000 in
theorem nwX9_50 : NW RX9 50 5 4 [.null, .null, .null, .int (iI 0)] := ⟨_, _, tyX5, rfl, tb_in5, tbm 145 (by decide +kernel) rfl, tbm 146 (by decide +kernel) rfl, tbm 17 (by decide +kernel) rfl, tyX5_ok, fun j hj => by rcases (show j = 0 ∨ j = 1 ∨ j = 2 ∨ j = 3 by omega) with rfl | rfl | rfl | rfl <;> rfl⟩
set_option maxRecDepth 100000 in
theorem nwX11_19 : NW RX11 19 4 2 [.null, .int (iI 0)] := ⟨_, _, tyX4, rfl, tb_in4, tbm 219 (by decide +kernel) rfl, tbm 220 (by decide +kernel) rfl, tbm 20 (by decide +kernel) rfl, tyX4_ok, fun j hj => by rcases (show j = 0 ∨ j = 1 by omega) with rfl | rfl <;> rfl⟩
set_option maxRecDepth 100000 in
theorem nwX4_9 : NW RX4 9 9 9 [.null, .null, .null, .null, .null, .null, .null, .int (iI 0), .int (iI 0)] := ⟨_, _, tyX9, rfl, tb_in9, tbm 225 (by decide +kernel) rfl, tbm 33 (by decide +kernel) rfl, tbm 11 (by decide +kernel) rfl, tyX9_ok, fun j hj => by rcases (show j = 0 ∨ j = 1 ∨ j = 2 ∨ j = 3 ∨ j = 4 ∨ j = 5 ∨ j = 6 ∨ j = 7 ∨ j = 8 by omega) with rfl | rfl | rfl | rfl | rfl | rfl | rfl | rfl | rfl <;> rfl⟩
set_option maxRecDepth 100000 in
theorem nwX11_26 : NW RX11 26 6 3 [.null, .null, .int (iI 0)] := ⟨_, _, tyX6, rfl, tb_in6, tbm 236 (by decide +kernel) rfl, tbm 237 (by decide +kernel) rfl, tbm 21 (by decide +kernel) rfl, tyX6_ok, fun j hj => by rcases (show j = 0 ∨ j = 1 ∨ j = 2 by omega) with rfl | rfl | rfl <;> rfl⟩
set_option maxRecDepth 100000 in
theorem nwX11_33 : NW RX11 33 10 2 [.null, .int (iI 0)] := ⟨_, _, tyX10, rfl, tb_in10, tbm 253 (by decide +kernel) rfl, tbm 254 (by decide +kernel) rfl, tbm 22 (by decide +kernel) rfl, tyX10_ok, fun j hj => by rcases (show j = 0 ∨ j = 1 by omega) with rfl | rfl <;> rfl⟩
set_option maxRecDepth 100000 in
theorem nwX11_40 : NW RX11 40 7 7 [.null, .null, .null, .int (iI 0), .int (iI 0), .int (iI 0), .int (iI 0)] := ⟨_, _, tyX7, rfl, tb_in7, tbm 267 (by decide +kernel) rfl, tbm 268 (by decide +kernel) rfl, tbm 23 (by decide +kernel) rfl, tyX7_ok, fun j hj => by rcases (show j = 0 ∨ j = 1 ∨ j = 2 ∨ j = 3 ∨ j = 4 ∨ j = 5 ∨ j = 6 by omega) with rfl | rfl | rfl | rfl | rfl | rfl | rfl <;> rfl⟩
set_option maxRecDepth 100000 in
theorem oiX11_1 : Cond.methodLink RX11 1 Lib.objectInit ∈ TB := tbm 29 (by decide +kernel) rfl
set_option maxRecDepth 100000 in
theorem oiX9_3 : Cond.methodLink RX9 3 Lib.objectInit ∈ TB := tbm 37 (by decide +kernel) rfl
set_option maxRecDepth 100000 in
theorem oiX8_3 : Cond.methodLink RX8 3 Lib.objectInit ∈ TB := tbm 43 (by decide +kernel) rfl
set_option maxRecDepth 100000 in
theorem oiX2_1 : Cond.methodLink RX2 1 Lib.objectInit ∈ TB := tbm 67 (by decide +kernel) rfl
set_option maxRecDepth 100000 in
theorem oiX0_3 : Cond.methodLink RX0 3 Lib.objectInit ∈ TB := tbm 82 (by decide +kernel) rfl
set_option maxRecDepth 100000 in
theorem oiX1_3 : Cond.methodLink RX1 3 Lib.objectInit ∈ TB := tbm 115 (by decide +kernel) rfl
set_option maxRecDepth 100000 in
theorem oiX3_3 : Cond.methodLink RX3 3 Lib.objectInit ∈ TB := tbm 133 (by decide +kernel) rfl
set_option maxRecDepth 100000 in
theorem oiX5_3 : Cond.methodLink RX5 3 Lib.objectInit ∈ TB := tbm 150 (by decide +kernel) rfl
set_option maxRecDepth 100000 in
theorem acX11_267 : Cond.methodLink RX11 267 arraycopyName ∈ TB := tbm 175 (by decide +kernel) rfl
set_option maxRecDepth 100000 in
theorem oiX4_3 : Cond.methodLink RX4 3 Lib.objectInit ∈ TB := tbm 224 (by decide +kernel) rfl
set_option maxRecDepth 100000 in
theorem oiX6_3 : Cond.methodLink RX6 3 Lib.objectInit ∈ TB := tbm 241 (by decide +kernel) rfl
set_option maxRecDepth 100000 in
theorem oiX10_3 : Cond.methodLink RX10 3 Lib.objectInit ∈ TB := tbm 258 (by decide +kernel) rfl
set_option maxRecDepth 100000 in
theorem oiX7_3 : Cond.methodLink RX7 3 Lib.objectInit ∈ TB := tbm 272 (by decide +kernel) rfl
set_option maxRecDepth 100000 in
theorem acX5_32 : Cond.methodLink RX5 32 arraycopyName ∈ TB := tbm 431 (by decide +kernel) rfl
set_option maxRecDepth 100000 in
theorem ac_n : Cond.native arraycopyName ∈ TB := tbm 177 (by decide +kernel) rfl
set_option maxRecDepth 100000 in
theorem ac_s : Cond.static arraycopyName ∈ TB := tbm 176 (by decide +kernel) rfl
set_option maxRecDepth 100000 in
theorem ac_i : Cond.initialized "java/lang/System" ∈ TB := tbm 19 (by decide +kernel) rfl
set_option maxRecDepth 100000 in
theorem oi_i : Cond.instanceMethod Lib.objectInit ∈ TB := tbm 30 (by decide +kernel) rfl
set_option maxRecDepth 100000 in
theorem oi_c : Cond.code Lib.objectInit ⟨#[0xb1]⟩ 1 none ∈ TB := tbm 31 (by decide +kernel) rfl
set_option maxRecDepth 100000 in
theorem aw_int : Cond.arrayClass .int ∈ TB := tbm 61 (by decide +kernel) rfl
set_option maxRecDepth 100000 in
theorem aw_char : Cond.arrayClass .char ∈ TB := tbm 266 (by decide +kernel) rfl
set_option maxRecDepth 100000 in
theorem aw_boolean : Cond.arrayClass .boolean ∈ TB := tbm 252 (by decide +kernel) rfl
set_option maxRecDepth 100000 in
theorem gnX1_9 : Cond.fieldLinkNest RX1 9 RX11 "FIRST_VALUES" "[I" "RainRecorder" ∈ TN := tnm 116 (by decide +kernel) rfl
set_option maxRecDepth 100000 in
theorem gnX9_57 : Cond.fieldLinkNest RX9 57 RX11 "FIRST_VALUES" "[I" "RainRecorder" ∈ TN := tnm 168 (by decide +kernel) rfl
end
section
theorem iI_nI (n : Nat) : iI (n : Int) = nI n := Int32.ofInt_eq_ofNat (n := n)
theorem iI_div {a b : Int} (h : 0 ≤ a ∧ a < 2147483648 ∧ 0 < b ∧ b < 2147483648) : ¬ iI b = 0 ∧ iI a / iI b = iI (a / b) := by
  obtain ⟨n, rfl⟩ := Int.eq_ofNat_of_zero_le h.1
  obtain ⟨d, rfl⟩ := Int.eq_ofNat_of_zero_le (by omega : 0 ≤ b)
  refine ⟨fun e => ?_, ?_⟩
  · rw [iI_0, iI_eq ⟨by omega, by omega⟩ ⟨by omega, by omega⟩] at e
    omega
  · rw [show ((n : Int) / (d : Int)) = ((n / d : Nat) : Int) from (Int.natCast_ediv n d).symm, iI_nI, iI_nI, iI_nI]
    exact pk_div (by omega) (by omega) (by omega)
theorem iI_xor {a b : Int} (h : 0 ≤ a ∧ a < 2147483648 ∧ 0 ≤ b ∧ b < 2147483648) : ∃ k : Int, 0 ≤ k ∧ k < 2147483648 ∧ iI a ^^^ iI b = iI k := by
  obtain ⟨n, rfl⟩ := Int.eq_ofNat_of_zero_le h.1
  obtain ⟨d, rfl⟩ := Int.eq_ofNat_of_zero_le (by omega : 0 ≤ b)
  have e : nI n ^^^ nI d = nI (n ^^^ d) := by
    apply Int32.toBitVec_inj.mp
    simp [nI, Int32.toBitVec_xor]
  have h3 : n ^^^ d < 2 ^ 31 := Nat.xor_lt_two_pow (by omega) (by omega)
  exact ⟨((n ^^^ d : Nat) : Int), by omega, by omega, by rw [iI_nI, iI_nI, iI_nI, e]⟩
section Rows3
variable {X : Fx} {E : Wd} {z : Nat × Nat × Nat} {pc : Nat} {ls ls' : List (Option Value)} {st : List Value} {cc : ByteArray} {ow : String}
theorem v_idivI (cx : Cx X cc ow) {a b : Int} (h : 0 ≤ a ∧ a < 2147483648 ∧ 0 < b ∧ b < 2147483648) (hd : decode cc pc = .ok (.idiv, 1)) (k : V X E z (pc + 1) ls (.int (iI (a / b)) :: st)) : V X E z pc ls (.int (iI b) :: .int (iI a) :: st) :=
  v_idiv cx (iI_div h).1 hd (by rw [(iI_div h).2]; exact k)
theorem v_ixorI (cx : Cx X cc ow) {a b : Int} (h : 0 ≤ a ∧ a < 2147483648 ∧ 0 ≤ b ∧ b < 2147483648) (hd : decode cc pc = .ok (.ixor, 1)) (k : ∀ x : Int, 0 ≤ x → x < 2147483648 → V X E z (pc + 1) ls (.int (iI x) :: st)) : V X E z pc ls (.int (iI b) :: .int (iI a) :: st) := by
  obtain ⟨x, h1, h2, h3⟩ := iI_xor h
  exact (k x h1 h2).st (fun H locs L hl k => lv_ixor cx.1 cx.2.1 hd (by rw [h3]; exact k))
theorem v_getstaticN (cx : Cx X cc ow) {idx : Nat} (i : Nat) (hi : i < 3) {host : String} (hl : Cond.fieldLinkNest ow idx RX11 (tbN i) "[I" host ∈ TN) (hd : decode cc pc = .ok (.getstatic idx, 3)) (kk : V X E z (pc + 3) ls (.ref (gT (fG X) i) :: st)) : V X E z pc ls st := by
  intro H locs L h1
  exact va_getsN cx.1 cx.2.1 (cx.2.2.2.2.1.2.1 i hi).1 h1.2.2.1 cx.2.2.1 (va_Nw.use rfl (va_nwTN cx hl)) (fun _ h => h) hd (kk H locs L h1)
end Rows3
end
section
set_option maxRecDepth 100000 in
set_option maxHeartbeats 4000000 in
theorem c_isWithin (lc : Launch) (G : Gc) (E : Wd) (nh : Nat) {v a b : Int} (h : (-2147483648 ≤ v ∧ v < 2147483648) ∧ (-2147483648 ≤ a ∧ a < 2147483648) ∧ (-2147483648 ≤ b ∧ b < 2147483648)) : CI lc G 0 yX11_isWithin cX11_isWithin 3 .boolean [.int (iI v), .int (iI a), .int (iI b)] E nh 0 0 (fun r E' => ((r = 1 ∧ a ≤ v ∧ v ≤ b) ∨ (r = 0 ∧ (v < a ∨ b < v))) ∧ E' = E) := by
  refine CI.mk (by decide +kernel) rfl (Nat.le_of_ble_eq_true rfl) ?_
  intro X hG hL cx hR hI
  subst hG; subst hL
  show V X E (nh, 0, 0) 0 [some (.int (iI v)), some (.int (iI a)), some (.int (iI b))] []
  refine v_iload_n (pc := 0) cx rfl ga0 dX11_isWithin_0 ?_
  refine v_iload_n (pc := 1) cx rfl ga1 dX11_isWithin_1 ?_
  refine v_icmp_lt (pc := 2) cx 14 dX11_isWithin_2 rfl (by omega) (fun c2 => ?_) (fun c2 => ?_)
  · refine v_iconst (pc := 14) cx dX11_isWithin_14 ?_
    refine v_ireturn (pc := 15) cx hI rfl ?_ dX11_isWithin_15
    exact ⟨Or.inr ⟨rfl, Or.inl c2⟩, rfl⟩
  · refine v_iload_n (pc := 5) cx rfl ga0 dX11_isWithin_5 ?_
    refine v_iload_n (pc := 6) cx rfl ga2 dX11_isWithin_6 ?_
    refine v_icmp_gt (pc := 7) cx 14 dX11_isWithin_7 rfl (by omega) (fun c7 => ?_) (fun c7 => ?_)
    · refine v_iconst (pc := 14) cx dX11_isWithin_14 ?_
      refine v_ireturn (pc := 15) cx hI rfl ?_ dX11_isWithin_15
      exact ⟨Or.inr ⟨rfl, Or.inr c7⟩, rfl⟩
    · refine v_iconst (pc := 10) cx dX11_isWithin_10 ?_
      refine v_goto (pc := 11) cx 15 dX11_isWithin_11 rfl ?_
      refine v_ireturn (pc := 15) cx hI rfl ?_ dX11_isWithin_15
      exact ⟨Or.inl ⟨rfl, c2, c7⟩, rfl⟩
set_option maxRecDepth 100000 in
set_option maxHeartbeats 4000000 in
theorem c_min (lc : Launch) (G : Gc) (E : Wd) (nh : Nat) {a b : Int} (h : (-2147483648 ≤ a ∧ a < 2147483648) ∧ (-2147483648 ≤ b ∧ b < 2147483648)) : CI lc G 0 yJ9_min_7cf53 cJ9_min_7cf53 2 .int [.int (iI a), .int (iI b)] E nh 0 0 (fun r E' => r = min a b ∧ E' = E) := by
  refine CI.mk (by decide +kernel) rfl (Nat.le_of_ble_eq_true rfl) ?_
  intro X hG hL cx hR hI
  subst hG; subst hL
  show V X E (nh, 0, 0) 0 [some (.int (iI a)), some (.int (iI b))] []
  refine v_iload_n (pc := 0) cx rfl ga0 dJ9_min_7cf53_0 ?_
  refine v_iload_n (pc := 1) cx rfl ga1 dJ9_min_7cf53_1 ?_
  refine v_icmp_gt (pc := 2) cx 9 dJ9_min_7cf53_2 rfl (by omega) (fun c2 => ?_) (fun c2 => ?_)
  · refine v_iload_n (pc := 9) cx rfl ga1 dJ9_min_7cf53_9 ?_
    refine v_ireturn (pc := 10) cx hI rfl ?_ dJ9_min_7cf53_10
    exact ⟨by omega, rfl⟩
  · refine v_iload_n (pc := 5) cx rfl ga0 dJ9_min_7cf53_5 ?_
    refine v_goto (pc := 6) cx 10 dJ9_min_7cf53_6 rfl ?_
    refine v_ireturn (pc := 10) cx hI rfl ?_ dJ9_min_7cf53_10
    exact ⟨by omega, rfl⟩
set_option maxRecDepth 100000 in
set_option maxHeartbeats 4000000 in
theorem c_max (lc : Launch) (G : Gc) (E : Wd) (nh : Nat) {a b : Int} (h : (-2147483648 ≤ a ∧ a < 2147483648) ∧ (-2147483648 ≤ b ∧ b < 2147483648)) : CI lc G 0 yJ9_max_7cf53 cJ9_max_7cf53 2 .int [.int (iI a), .int (iI b)] E nh 0 0 (fun r E' => r = max a b ∧ E' = E) := by
  refine CI.mk (by decide +kernel) rfl (Nat.le_of_ble_eq_true rfl) ?_
  intro X hG hL cx hR hI
  subst hG; subst hL
  show V X E (nh, 0, 0) 0 [some (.int (iI a)), some (.int (iI b))] []
  refine v_iload_n (pc := 0) cx rfl ga0 dJ9_max_7cf53_0 ?_
  refine v_iload_n (pc := 1) cx rfl ga1 dJ9_max_7cf53_1 ?_
  refine v_icmp_lt (pc := 2) cx 9 dJ9_max_7cf53_2 rfl (by omega) (fun c2 => ?_) (fun c2 => ?_)
  · refine v_iload_n (pc := 9) cx rfl ga1 dJ9_max_7cf53_9 ?_
    refine v_ireturn (pc := 10) cx hI rfl ?_ dJ9_max_7cf53_10
    exact ⟨by omega, rfl⟩
  · refine v_iload_n (pc := 5) cx rfl ga0 dJ9_max_7cf53_5 ?_
    refine v_goto (pc := 6) cx 10 dJ9_max_7cf53_6 rfl ?_
    refine v_ireturn (pc := 10) cx hI rfl ?_ dJ9_max_7cf53_10
    exact ⟨by omega, rfl⟩
set_option maxRecDepth 100000 in
set_option maxHeartbeats 4000000 in
theorem c_floorDiv (lc : Launch) (G : Gc) (E : Wd) (nh : Nat) {a b : Int} (h : 0 ≤ a ∧ a < 2147483648 ∧ 0 < b ∧ b < 2147483648) : CI lc G 0 yJ9_floorDiv_7cf53 cJ9_floorDiv_7cf53 3 .int [.int (iI a), .int (iI b)] E nh 0 0 (fun r E' => r = a / b ∧ E' = E) := by
  refine CI.mk (by decide +kernel) rfl (Nat.le_of_ble_eq_true rfl) ?_
  intro X hG hL cx hR hI
  subst hG; subst hL
  show V X E (nh, 0, 0) 0 [some (.int (iI a)), some (.int (iI b)), none] []
  refine v_iload_n (pc := 0) cx rfl ga0 dJ9_floorDiv_7cf53_0 ?_
  refine v_iload_n (pc := 1) cx rfl ga1 dJ9_floorDiv_7cf53_1 ?_
  refine v_idivI (pc := 2) cx (by omega) dJ9_floorDiv_7cf53_2 ?_
  refine v_istore_n (pc := 3) cx rfl (sa2 rfl) dJ9_floorDiv_7cf53_3 ?_
  refine v_iload_n (pc := 4) cx rfl ga0 dJ9_floorDiv_7cf53_4 ?_
  refine v_iload_n (pc := 5) cx rfl ga1 dJ9_floorDiv_7cf53_5 ?_
  refine v_ixorI (pc := 6) cx (by omega) dJ9_floorDiv_7cf53_6 (fun x hx1 hx2 => ?_)
  refine v_if_ge (pc := 7) cx 21 dJ9_floorDiv_7cf53_7 rfl (by omega) (fun c7 => ?_) (fun c7 => ?_)
  · refine v_iload_n (pc := 21) cx rfl ga2 dJ9_floorDiv_7cf53_21 ?_
    refine v_ireturn (pc := 22) cx hI rfl ?_ dJ9_floorDiv_7cf53_22
    exact ⟨rfl, rfl⟩
  · omega
set_option maxRecDepth 100000 in
set_option maxHeartbeats 4000000 in
theorem c_quotient (lc : Launch) (G : Gc) (E : Wd) (nh : Nat) {a b : Int} (h : 0 ≤ a ∧ a < 2147483648 ∧ 0 < b ∧ b < 2147483648) : CI lc G 1 yX11_quotient cX11_quotient 2 .int [.int (iI a), .int (iI b)] E nh 0 0 (fun r E' => r = a / b ∧ E' = E) := by
  refine CI.mk (by decide +kernel) rfl (Nat.le_of_ble_eq_true rfl) ?_
  intro X hG hL cx hR hI
  subst hG; subst hL
  show V X E (nh, 0, 0) 0 [some (.int (iI a)), some (.int (iI b))] []
  refine v_iload_n (pc := 0) cx rfl ga1 dX11_quotient_0 ?_
  refine v_if_ne (pc := 1) cx 8 dX11_quotient_1 rfl (by omega) (fun c1 => ?_) (fun c1 => ?_)
  · refine v_iload_n (pc := 8) cx rfl ga0 dX11_quotient_8 ?_
    refine v_iload_n (pc := 9) cx rfl ga1 dX11_quotient_9 ?_
    refine v_callSI (pc := 10) cx hR (c_floorDiv _ _ _ _ h) mlX11_261 (by decide) rfl (Nat.le_of_ble_eq_true rfl) ⟨Nat.le_refl _, Nat.le_refl _⟩ dX11_quotient_10 (fun r E' hP => ?_)
    obtain ⟨rfl, rfl⟩ := hP
    refine v_ireturn (pc := 13) cx hI rfl ?_ dX11_quotient_13
    exact ⟨rfl, rfl⟩
  · omega
def Out (E E' : Wd) (a b : Nat) : Prop := ∀ j : Nat, (j < a ∨ b ≤ j) → E' j = E j

set_option maxRecDepth 100000 in
set_option maxHeartbeats 4000000 in
theorem c_copyRow (lc : Launch) (G : Gc) (E : Wd) (nh : Nat) {os od m : Nat} {f g : Nat → Int} (hm : m < 10000) (ha : E os = some (AI G m f)) (hb : E od = some (AI G m g)) : CV lc G 1 yX11_copyRow cX11_copyRow 2 [.ref (gb G + os), .ref (gb G + od)] E nh 0 0 (fun E' => E' od = some (AI G m (cpyI f g 0 0 m)) ∧ ∀ j, j ≠ od → E' j = E j) := by
  refine CV.mk (by decide +kernel) rfl (Nat.le_of_ble_eq_true rfl) ?_
  intro X hG hL cx hR hI hini
  subst hG; subst hL
  show V X E (nh, 0, 0) 0 [some (.ref (gb (fG X) + os)), some (.ref (gb (fG X) + od))] []
  refine v_aload_n (pc := 0) cx rfl ga0 dX11_copyRow_0 ?_
  refine v_iconst (pc := 1) cx dX11_copyRow_1 ?_
  refine v_aload_n (pc := 2) cx rfl ga1 dX11_copyRow_2 ?_
  refine v_iconst (pc := 3) cx dX11_copyRow_3 ?_
  refine v_aload_n (pc := 4) cx rfl ga0 dX11_copyRow_4 ?_
  refine v_alen (pc := 5) cx (by assumption) rfl dX11_copyRow_5 ?_
  refine v_aload_n (pc := 6) cx rfl ga1 dX11_copyRow_6 ?_
  refine v_alen (pc := 7) cx (by assumption) rfl dX11_copyRow_7 ?_
  refine v_callSI (pc := 8) cx hR (c_min _ _ _ _ ⟨⟨by omega, by omega⟩, ⟨by omega, by omega⟩⟩) mlX11_264 (by decide) rfl (Nat.le_of_ble_eq_true rfl) ⟨Nat.le_refl _, Nat.le_refl _⟩ dX11_copyRow_8 (fun r E' hP => ?_)
  obtain ⟨rfl, rfl⟩ := hP
  rw [show min (m : Int) (m : Int) = (m : Int) by omega]
  refine v_copy (pc := 11) cx 0 0 m hR (by decide) acX11_267 ac_n ac_s ac_i ha hb (by omega) (Nat.le_of_ble_eq_true rfl) dX11_copyRow_11 (fun E1 hE1 hF1 => ?_)
  refine v_return (pc := 14) cx hI ?_ dX11_copyRow_14
  exact ⟨hE1, hF1⟩
end
section
/-! the showers that are told ahead: raw rows, and the list that they hold -/
def rSh (G : Gc) (E : Wd) (o : Nat) (n : Int) (b l r : Nat → Int) : Prop :=
  E o = some (.inr (8, [.ref (gb G + (o + 1)), .ref (gb G + (o + 2)), .ref (gb G + (o + 3)), .int (iI n)])) ∧ E (o + 1) = some (AI G 12 b) ∧ E (o + 2) = some (AI G 12 l) ∧ E (o + 3) = some (AI G 12 r)
theorem rSh.out {G : Gc} {E E' : Wd} {o : Nat} {n : Int} {b l r : Nat → Int} {x y : Nat} (h : rSh G E o n b l r) (hE : Out E E' x y) (hxy : o + 4 ≤ x ∨ y ≤ o) : rSh G E' o n b l r :=
  ⟨(hE _ (by omega)).trans h.1, (hE _ (by omega)).trans h.2.1, (hE _ (by omega)).trans h.2.2.1, (hE _ (by omega)).trans h.2.2.2⟩
def rainTo (b l r : Nat → Int) (t : Int) : Nat → Int
  | 0 => 0
  | k + 1 => rainTo b l r t k + if b k ≤ t ∧ t < b k + l k then r k else 0
def insP (b : Nat → Int) (x : Int) : Nat → Nat
  | 0 => 0
  | k + 1 => if x < b k then insP b x k else k + 1
def insF (f : Nat → Int) (p m : Nat) (x : Int) : Nat → Int := fun j => if j < p then f j else if j = p then x else if j ≤ m then f (j - 1) else f j
def shF (f : Nat → Int) (q m : Nat) : Nat → Int := fun j => if q < j ∧ j ≤ m then f (j - 1) else f j
def delF (f : Nat → Int) (k i : Nat) : Nat → Int := fun j => if k ≤ j ∧ j + 1 < i then f (j + 1) else f j
def lst (b l r : Nat → Int) (m : Nat) : List (Int × Int × Int) := (List.range m).map (fun j => (b j, l j, r j))
theorem lst_ext {b l r b' l' r' : Nat → Int} {m : Nat} (h : ∀ j, j < m → b j = b' j ∧ l j = l' j ∧ r j = r' j) : lst b l r m = lst b' l' r' m := by
  apply List.map_congr_left
  intro j hj
  obtain ⟨h1, h2, h3⟩ := h j (List.mem_range.mp hj)
  rw [h1, h2, h3]
theorem lst_succ {b l r : Nat → Int} {m : Nat} : lst b l r (m + 1) = lst b l r m ++ [(b m, l m, r m)] := by
  simp [lst, List.range_succ]
theorem insP_le (b : Nat → Int) (x : Int) : ∀ m, insP b x m ≤ m := by
  intro m
  induction m with
  | zero => exact Nat.le_refl _
  | succ k ih => unfold insP; split <;> omega
set_option maxRecDepth 100000 in
set_option maxHeartbeats 4000000 in
theorem c_Sh_has (lc : Launch) (G : Gc) (E : Wd) (nh : Nat) {o : Nat} {m k : Int} {b l r : Nat → Int} (h : rSh G E o m b l r) (hm : 0 ≤ m ∧ m ≤ 12) (hk : -2147483648 ≤ k ∧ k < 2147483648) : CI lc G 0 yX8_has cX8_has 2 .boolean [.ref (gb G + o), .int (iI k)] E nh 0 0 (fun v E' => ((v = 1 ∧ 0 ≤ k ∧ k < m) ∨ (v = 0 ∧ (k < 0 ∨ m ≤ k))) ∧ E' = E) := by
  refine CI.mk (by decide +kernel) rfl (Nat.le_of_ble_eq_true rfl) ?_
  intro X hG hL cx hR hI
  subst hG; subst hL
  show V X E (nh, 0, 0) 0 [some (.ref (gb (fG X) + o)), some (.int (iI k))] []
  obtain ⟨h0, hb, hl, hr⟩ := h
  refine v_iload_n (pc := 0) cx rfl ga1 dX8_has_0 ?_
  refine v_if_lt (pc := 1) cx 16 dX8_has_1 rfl (by omega) (fun c1 => ?_) (fun c1 => ?_)
  · refine v_iconst (pc := 16) cx dX8_has_16 ?_
    refine v_ireturn (pc := 17) cx hI rfl ?_ dX8_has_17
    exact ⟨Or.inr ⟨rfl, Or.inl c1⟩, rfl⟩
  · refine v_iload_n (pc := 4) cx rfl ga1 dX8_has_4 ?_
    refine v_aload_n (pc := 5) cx rfl ga0 dX8_has_5 ?_
    refine v_getfield (pc := 6) cx flX8_25 (by assumption) gf3 dX8_has_6 ?_
    refine v_icmp_ge (pc := 9) cx 16 dX8_has_9 rfl (by omega) (fun c9 => ?_) (fun c9 => ?_)
    · refine v_iconst (pc := 16) cx dX8_has_16 ?_
      refine v_ireturn (pc := 17) cx hI rfl ?_ dX8_has_17
      exact ⟨Or.inr ⟨rfl, Or.inr c9⟩, rfl⟩
    · refine v_iconst (pc := 12) cx dX8_has_12 ?_
      refine v_goto (pc := 13) cx 17 dX8_has_13 rfl ?_
      refine v_ireturn (pc := 17) cx hI rfl ?_ dX8_has_17
      exact ⟨Or.inl ⟨rfl, c1, c9⟩, rfl⟩
set_option maxRecDepth 100000 in
set_option maxHeartbeats 4000000 in
theorem c_Sh_move (lc : Launch) (G : Gc) (E : Wd) (nh : Nat) {o jf jt : Nat} {m : Int} {b l r : Nat → Int} (h : rSh G E o m b l r) (hf : jf < 12) (ht : jt < 12) : CV lc G 0 yX8_move cX8_move 3 [.ref (gb G + o), .int (iI (jf : Int)), .int (iI (jt : Int))] E nh 0 0 (fun E' => rSh G E' o m (upI b jt (b jf)) (upI l jt (l jf)) (upI r jt (r jf)) ∧ Out E E' o (o + 4)) := by
  refine CV.mk (by decide +kernel) rfl (Nat.le_of_ble_eq_true rfl) ?_
  intro X hG hL cx hR hI hini
  subst hG; subst hL
  show V X E (nh, 0, 0) 0 [some (.ref (gb (fG X) + o)), some (.int (iI (jf : Int))), some (.int (iI (jt : Int)))] []
  obtain ⟨h0, hb, hl, hr⟩ := h
  have hFr : Out E E o (o + 4) := fun j hj => rfl
  refine v_aload_n (pc := 0) cx rfl ga0 dX8_move_0 ?_
  refine v_getfield (pc := 1) cx flX8_9 (by assumption) gf0 dX8_move_1 ?_
  refine v_iload_n (pc := 4) cx rfl ga2 dX8_move_4 ?_
  refine v_aload_n (pc := 5) cx rfl ga0 dX8_move_5 ?_
  refine v_getfield (pc := 6) cx flX8_9 (by assumption) gf0 dX8_move_6 ?_
  refine v_iload_n (pc := 9) cx rfl ga1 dX8_move_9 ?_
  refine v_iaload (pc := 10) cx (jf) (by assumption) (by omega) dX8_move_10 ?_
  refine v_iastore (pc := 11) cx (jt) hb (by omega) dX8_move_11 (fun E11 hE11 hF11 => ?_)
  replace h0 := (hF11 _ (by omega)).trans h0
  replace hb := hE11
  replace hl := (hF11 _ (by omega)).trans hl
  replace hr := (hF11 _ (by omega)).trans hr
  replace hFr := fun j hj => (hF11 j (by omega)).trans (hFr j hj)
  refine v_aload_n (pc := 12) cx rfl ga0 dX8_move_12 ?_
  refine v_getfield (pc := 13) cx flX8_15 (by assumption) gf1 dX8_move_13 ?_
  refine v_iload_n (pc := 16) cx rfl ga2 dX8_move_16 ?_
  refine v_aload_n (pc := 17) cx rfl ga0 dX8_move_17 ?_
  refine v_getfield (pc := 18) cx flX8_15 (by assumption) gf1 dX8_move_18 ?_
  refine v_iload_n (pc := 21) cx rfl ga1 dX8_move_21 ?_
  refine v_iaload (pc := 22) cx (jf) (by assumption) (by omega) dX8_move_22 ?_
  refine v_iastore (pc := 23) cx (jt) hl (by omega) dX8_move_23 (fun E23 hE23 hF23 => ?_)
  replace h0 := (hF23 _ (by omega)).trans h0
  replace hb := (hF23 _ (by omega)).trans hb
  replace hl := hE23
  replace hr := (hF23 _ (by omega)).trans hr
  replace hFr := fun j hj => (hF23 j (by omega)).trans (hFr j hj)
  refine v_aload_n (pc := 24) cx rfl ga0 dX8_move_24 ?_
  refine v_getfield (pc := 25) cx flX8_18 (by assumption) gf2 dX8_move_25 ?_
  refine v_iload_n (pc := 28) cx rfl ga2 dX8_move_28 ?_
  refine v_aload_n (pc := 29) cx rfl ga0 dX8_move_29 ?_
  refine v_getfield (pc := 30) cx flX8_18 (by assumption) gf2 dX8_move_30 ?_
  refine v_iload_n (pc := 33) cx rfl ga1 dX8_move_33 ?_
  refine v_iaload (pc := 34) cx (jf) (by assumption) (by omega) dX8_move_34 ?_
  refine v_iastore (pc := 35) cx (jt) hr (by omega) dX8_move_35 (fun E35 hE35 hF35 => ?_)
  replace h0 := (hF35 _ (by omega)).trans h0
  replace hb := (hF35 _ (by omega)).trans hb
  replace hl := (hF35 _ (by omega)).trans hl
  replace hr := hE35
  replace hFr := fun j hj => (hF35 j (by omega)).trans (hFr j hj)
  refine v_return (pc := 36) cx hI ?_ dX8_move_36
  exact ⟨⟨h0, hb, hl, hr⟩, hFr⟩
set_option maxRecDepth 100000 in
set_option maxHeartbeats 4000000 in
theorem c_Sh_rainIn (lc : Launch) (G : Gc) (E : Wd) (nh : Nat) {o m : Nat} {t : Int} {b l r : Nat → Int} (h : rSh G E o (m : Int) b l r) (hm : m ≤ 12) (ht : 0 ≤ t ∧ t < 1000000) (hr0 : ∀ j, j < m → (0 ≤ b j ∧ b j ≤ 5000) ∧ (1 ≤ l j ∧ l j ≤ 500) ∧ (1 ≤ r j ∧ r j ≤ 200)) : CI lc G 0 yX8_rainIn cX8_rainIn 4 .int [.ref (gb G + o), .int (iI t)] E nh 0 0 (fun v E' => v = rainTo b l r t m ∧ E' = E) := by
  refine CI.mk (by decide +kernel) rfl (Nat.le_of_ble_eq_true rfl) ?_
  intro X hG hL cx hR hI
  subst hG; subst hL
  show V X E (nh, 0, 0) 0 [some (.ref (gb (fG X) + o)), some (.int (iI t)), none, none] []
  obtain ⟨h0, hb, hl, hr⟩ := h
  have loop : ∀ (d k : Nat), k ≤ m → m - k < d → V X E (nh, 0, 0) 4 [some (.ref (gb (fG X) + o)), some (.int (iI t)), some (.int (iI (rainTo b l r t k))), some (.int (iI (k : Int)))] [] := by
    intro d
    induction d with
    | zero => intro k hk hd; omega
    | succ d ih =>
      intro k hk hd
      refine v_iload_n (pc := 4) cx rfl ga3 dX8_rainIn_4 ?_
      refine v_aload_n (pc := 5) cx rfl ga0 dX8_rainIn_5 ?_
      refine v_getfield (pc := 6) cx flX8_25 (by assumption) gf3 dX8_rainIn_6 ?_
      refine v_icmp_ge (pc := 9) cx 54 dX8_rainIn_9 rfl (by omega) (fun c9 => ?_) (fun c9 => ?_)
      · refine v_iload_n (pc := 54) cx rfl ga2 dX8_rainIn_54 ?_
        refine v_ireturn (pc := 55) cx hI rfl ?_ dX8_rainIn_55
        exact ⟨by rw [show k = m by omega], rfl⟩
      · have hk1 := hr0 k (by omega)
        refine v_aload_n (pc := 12) cx rfl ga0 dX8_rainIn_12 ?_
        refine v_getfield (pc := 13) cx flX8_9 (by assumption) gf0 dX8_rainIn_13 ?_
        refine v_iload_n (pc := 16) cx rfl ga3 dX8_rainIn_16 ?_
        refine v_iaload (pc := 17) cx (k) (by assumption) (by omega) dX8_rainIn_17 ?_
        refine v_iload_n (pc := 18) cx rfl ga1 dX8_rainIn_18 ?_
        refine v_icmp_gt (pc := 19) cx 48 dX8_rainIn_19 rfl (by omega) (fun c19 => ?_) (fun c19 => ?_)
        · refine v_iinc (pc := 48) cx ga3 (sa3 rfl) dX8_rainIn_48 ?_
          refine v_goto (pc := 51) cx 4 dX8_rainIn_51 rfl ?_
          have e : rainTo b l r t (k + 1) = rainTo b l r t k := by simp only [rainTo]; rw [if_neg (by omega)]; omega
          rw [← e]
          exact ih (k + 1) (by omega) (by omega)
        · refine v_iload_n (pc := 22) cx rfl ga1 dX8_rainIn_22 ?_
          refine v_aload_n (pc := 23) cx rfl ga0 dX8_rainIn_23 ?_
          refine v_getfield (pc := 24) cx flX8_9 (by assumption) gf0 dX8_rainIn_24 ?_
          refine v_iload_n (pc := 27) cx rfl ga3 dX8_rainIn_27 ?_
          refine v_iaload (pc := 28) cx (k) (by assumption) (by omega) dX8_rainIn_28 ?_
          refine v_aload_n (pc := 29) cx rfl ga0 dX8_rainIn_29 ?_
          refine v_getfield (pc := 30) cx flX8_15 (by assumption) gf1 dX8_rainIn_30 ?_
          refine v_iload_n (pc := 33) cx rfl ga3 dX8_rainIn_33 ?_
          refine v_iaload (pc := 34) cx (k) (by assumption) (by omega) dX8_rainIn_34 ?_
          refine v_iadd (pc := 35) cx dX8_rainIn_35 ?_
          refine v_icmp_ge (pc := 36) cx 48 dX8_rainIn_36 rfl (by omega) (fun c36 => ?_) (fun c36 => ?_)
          · refine v_iinc (pc := 48) cx ga3 (sa3 rfl) dX8_rainIn_48 ?_
            refine v_goto (pc := 51) cx 4 dX8_rainIn_51 rfl ?_
            have e : rainTo b l r t (k + 1) = rainTo b l r t k := by simp only [rainTo]; rw [if_neg (by omega)]; omega
            rw [← e]
            exact ih (k + 1) (by omega) (by omega)
          · refine v_iload_n (pc := 39) cx rfl ga2 dX8_rainIn_39 ?_
            refine v_aload_n (pc := 40) cx rfl ga0 dX8_rainIn_40 ?_
            refine v_getfield (pc := 41) cx flX8_18 (by assumption) gf2 dX8_rainIn_41 ?_
            refine v_iload_n (pc := 44) cx rfl ga3 dX8_rainIn_44 ?_
            refine v_iaload (pc := 45) cx (k) (by assumption) (by omega) dX8_rainIn_45 ?_
            refine v_iadd (pc := 46) cx dX8_rainIn_46 ?_
            refine v_istore_n (pc := 47) cx rfl (sa2 rfl) dX8_rainIn_47 ?_
            refine v_iinc (pc := 48) cx ga3 (sa3 rfl) dX8_rainIn_48 ?_
            refine v_goto (pc := 51) cx 4 dX8_rainIn_51 rfl ?_
            have e : rainTo b l r t (k + 1) = rainTo b l r t k + r k := by simp only [rainTo]; rw [if_pos (by omega)]
            rw [← e]
            exact ih (k + 1) (by omega) (by omega)
  refine v_iconst (pc := 0) cx dX8_rainIn_0 ?_
  refine v_istore_n (pc := 1) cx rfl (sa2 rfl) dX8_rainIn_1 ?_
  refine v_iconst (pc := 2) cx dX8_rainIn_2 ?_
  refine v_istore_n (pc := 3) cx rfl (sa3 rfl) dX8_rainIn_3 ?_
  exact loop (m + 1) 0 (Nat.zero_le _) (by omega)
end
section
theorem shF_step {f : Nat → Int} {q m : Nat} (h : 1 ≤ q ∧ q ≤ m) : upI (shF f q m) q (shF f q m (q - 1)) = shF f (q - 1) m := by
  funext j
  unfold upI shF
  by_cases h1 : j = q
  · rw [if_pos h1, if_neg (by omega), if_pos (by omega), h1]
  · rw [if_neg h1]
    by_cases h2 : q < j ∧ j ≤ m
    · rw [if_pos h2, if_pos (by omega)]
    · rw [if_neg h2, if_neg (by omega)]
theorem shF_m {f : Nat → Int} {m : Nat} : shF f m m = f := by
  funext j
  unfold shF
  rw [if_neg (by omega)]
theorem shF_ins {f : Nat → Int} {q m : Nat} {x : Int} (h : q ≤ m) : upI (shF f q m) q x = insF f q m x := by
  funext j
  unfold upI shF insF
  by_cases h1 : j = q
  · rw [if_pos h1, if_neg (by omega), if_pos h1]
  · rw [if_neg h1]
    by_cases h2 : j < q
    · rw [if_neg (by omega), if_pos h2]
    · rw [if_neg h2, if_neg h1]
      by_cases h3 : j ≤ m
      · rw [if_pos (by omega), if_pos h3]
      · rw [if_neg (by omega), if_neg h3]
theorem insP_lt {b : Nat → Int} {x : Int} {q : Nat} (h : 1 ≤ q) (hx : x < b (q - 1)) : insP b x q = insP b x (q - 1) := by
  obtain ⟨k, rfl⟩ : ∃ k, q = k + 1 := ⟨q - 1, by omega⟩
  simp only [Nat.add_sub_cancel] at hx ⊢
  simp only [insP]
  rw [if_pos hx]
theorem insP_ge {b : Nat → Int} {x : Int} {q : Nat} (hx : q = 0 ∨ b (q - 1) ≤ x) : insP b x q = q := by
  cases q with
  | zero => rfl
  | succ k =>
    simp only [Nat.add_sub_cancel] at hx
    simp only [insP]
    rw [if_neg (by omega)]
theorem delF_0 {f : Nat → Int} {k : Nat} : delF f k (k + 1) = f := by
  funext j
  unfold delF
  rw [if_neg (by omega)]
theorem delF_step {f : Nat → Int} {k i : Nat} (h : k + 1 ≤ i) : upI (delF f k i) (i - 1) (delF f k i i) = delF f k (i + 1) := by
  funext j
  unfold upI delF
  by_cases h1 : j = i - 1
  · rw [if_pos h1, if_neg (by omega), if_pos (by omega)]
    congr 1
    omega
  · rw [if_neg h1]
    by_cases h2 : k ≤ j ∧ j + 1 < i
    · rw [if_pos h2, if_pos (by omega)]
    · rw [if_neg h2, if_neg (by omega)]
set_option maxRecDepth 100000 in
set_option maxHeartbeats 4000000 in
theorem c_Sh_insert (lc : Launch) (G : Gc) (E : Wd) (nh : Nat) {o m : Nat} {x y w : Int} {b l r : Nat → Int} (h : rSh G E o (m : Int) b l r) (hm : m < 12) (hx : -2147483648 ≤ x ∧ x < 2147483648) (hr0 : ∀ j, j < m → -2147483648 ≤ b j ∧ b j < 2147483648) : CI lc G 1 yX8_insert cX8_insert 5 .int [.ref (gb G + o), .int (iI x), .int (iI y), .int (iI w)] E nh 0 0 (fun v E' => v = (insP b x m : Int) ∧ rSh G E' o ((m : Int) + 1) (insF b (insP b x m) m x) (insF l (insP b x m) m y) (insF r (insP b x m) m w) ∧ Out E E' o (o + 4)) := by
  refine CI.mk (by decide +kernel) rfl (Nat.le_of_ble_eq_true rfl) ?_
  intro X hG hL cx hR hI
  subst hG; subst hL
  show V X E (nh, 0, 0) 0 [some (.ref (gb (fG X) + o)), some (.int (iI x)), some (.int (iI y)), some (.int (iI w)), none] []
  have fin : ∀ (q : Nat) (E' : Wd), q ≤ m → rSh (fG X) E' o m (shF b q m) (shF l q m) (shF r q m) → Out E E' o (o + 4) → insP b x m = q → V X E' (nh, 0, 0) 52 [some (.ref (gb (fG X) + o)), some (.int (iI x)), some (.int (iI y)), some (.int (iI w)), some (.int (iI (q : Int)))] [] := by
    intro q E' hq h hFr hp
    obtain ⟨h0, hb, hl, hr⟩ := h
    refine v_aload_n (pc := 52) cx rfl ga0 dX8_insert_52 ?_
    refine v_getfield (pc := 53) cx flX8_9 (by assumption) gf0 dX8_insert_53 ?_
    refine v_iload (pc := 56) cx ga4 dX8_insert_56 ?_
    refine v_iload_n (pc := 58) cx rfl ga1 dX8_insert_58 ?_
    refine v_iastore (pc := 59) cx (q) hb (by omega) dX8_insert_59 (fun E59 hE59 hF59 => ?_)
    replace h0 := (hF59 _ (by omega)).trans h0
    replace hb := hE59
    replace hl := (hF59 _ (by omega)).trans hl
    replace hr := (hF59 _ (by omega)).trans hr
    replace hFr := fun j hj => (hF59 j (by omega)).trans (hFr j hj)
    refine v_aload_n (pc := 60) cx rfl ga0 dX8_insert_60 ?_
    refine v_getfield (pc := 61) cx flX8_15 (by assumption) gf1 dX8_insert_61 ?_
    refine v_iload (pc := 64) cx ga4 dX8_insert_64 ?_
    refine v_iload_n (pc := 66) cx rfl ga2 dX8_insert_66 ?_
    refine v_iastore (pc := 67) cx (q) hl (by omega) dX8_insert_67 (fun E67 hE67 hF67 => ?_)
    replace h0 := (hF67 _ (by omega)).trans h0
    replace hb := (hF67 _ (by omega)).trans hb
    replace hl := hE67
    replace hr := (hF67 _ (by omega)).trans hr
    replace hFr := fun j hj => (hF67 j (by omega)).trans (hFr j hj)
    refine v_aload_n (pc := 68) cx rfl ga0 dX8_insert_68 ?_
    refine v_getfield (pc := 69) cx flX8_18 (by assumption) gf2 dX8_insert_69 ?_
    refine v_iload (pc := 72) cx ga4 dX8_insert_72 ?_
    refine v_iload_n (pc := 74) cx rfl ga3 dX8_insert_74 ?_
    refine v_iastore (pc := 75) cx (q) hr (by omega) dX8_insert_75 (fun E75 hE75 hF75 => ?_)
    replace h0 := (hF75 _ (by omega)).trans h0
    replace hb := (hF75 _ (by omega)).trans hb
    replace hl := (hF75 _ (by omega)).trans hl
    replace hr := hE75
    replace hFr := fun j hj => (hF75 j (by omega)).trans (hFr j hj)
    refine v_aload_n (pc := 76) cx rfl ga0 dX8_insert_76 ?_
    refine v_dup (pc := 77) cx rfl dX8_insert_77 ?_
    refine v_getfield (pc := 78) cx flX8_25 (by assumption) gf3 dX8_insert_78 ?_
    refine v_iconst (pc := 81) cx dX8_insert_81 ?_
    refine v_iadd (pc := 82) cx dX8_insert_82 ?_
    refine v_putfield (pc := 83) cx fpX8_25 h0 ⟨rfl, rfl⟩ pf3 dX8_insert_83 (fun E83 hE83 hF83 => ?_)
    replace h0 := hE83
    replace hb := (hF83 _ (by omega)).trans hb
    replace hl := (hF83 _ (by omega)).trans hl
    replace hr := (hF83 _ (by omega)).trans hr
    replace hFr := fun j hj => (hF83 j (by omega)).trans (hFr j hj)
    refine v_iload (pc := 86) cx ga4 dX8_insert_86 ?_
    refine v_ireturn (pc := 88) cx hI rfl ?_ dX8_insert_88
    rw [shF_ins hq] at hb hl hr
    rw [hp]
    exact ⟨rfl, ⟨h0, hb, hl, hr⟩, hFr⟩
  have loop : ∀ (d q : Nat) (E' : Wd), q ≤ m → q < d → rSh (fG X) E' o m (shF b q m) (shF l q m) (shF r q m) → Out E E' o (o + 4) → insP b x m = insP b x q → V X E' (nh, 0, 0) 18 [some (.ref (gb (fG X) + o)), some (.int (iI x)), some (.int (iI y)), some (.int (iI w)), some (.int (iI (q : Int)))] [] := by
    intro d
    induction d with
    | zero => intro q E' hq hd; omega
    | succ d ih =>
      intro q E' hq hd h hFr hp
      obtain ⟨h0, hb, hl, hr⟩ := id h
      refine v_iload (pc := 18) cx ga4 dX8_insert_18 ?_
      refine v_if_le (pc := 20) cx 52 dX8_insert_20 rfl (by omega) (fun c20 => ?_) (fun c20 => ?_)
      · exact fin q E' hq h hFr (hp.trans (insP_ge (Or.inl (by omega))))
      · have e1 : shF b q m (q - 1) = b (q - 1) := by unfold shF; rw [if_neg (by omega)]
        have hk := hr0 (q - 1) (by omega)
        refine v_aload_n (pc := 23) cx rfl ga0 dX8_insert_23 ?_
        refine v_getfield (pc := 24) cx flX8_9 (by assumption) gf0 dX8_insert_24 ?_
        refine v_iload (pc := 27) cx ga4 dX8_insert_27 ?_
        refine v_iconst (pc := 29) cx dX8_insert_29 ?_
        refine v_isub (pc := 30) cx dX8_insert_30 ?_
        refine v_iaload (pc := 31) cx (q - 1) (by assumption) (by omega) dX8_insert_31 ?_
        refine v_iload_n (pc := 32) cx rfl ga1 dX8_insert_32 ?_
        refine v_icmp_le (pc := 33) cx 52 dX8_insert_33 rfl (by omega) (fun c33 => ?_) (fun c33 => ?_)
        · exact fin q E' hq h hFr (hp.trans (insP_ge (Or.inr (by omega))))
        · refine v_aload_n (pc := 36) cx rfl ga0 dX8_insert_36 ?_
          refine v_iload (pc := 37) cx ga4 dX8_insert_37 ?_
          refine v_iconst (pc := 39) cx dX8_insert_39 ?_
          refine v_isub (pc := 40) cx dX8_insert_40 ?_
          refine v_iload (pc := 41) cx ga4 dX8_insert_41 ?_
          rw [show ((q : Int) - 1) = ((q - 1 : Nat) : Int) by omega]
          refine v_callVV (pc := 43) cx hR (c_Sh_move _ _ _ _ h (by omega) (by omega)) mlX8_29 (by decide) (by assumption) rfl rfl rfl (Nat.le_of_ble_eq_true rfl) ⟨Nat.le_refl _, Nat.le_refl _⟩ dX8_insert_43 (fun E2 hP => ?_)
          obtain ⟨h2, hF2⟩ := hP
          rw [shF_step ⟨by omega, hq⟩, shF_step ⟨by omega, hq⟩, shF_step ⟨by omega, hq⟩] at h2
          refine v_iinc (pc := 46) cx ga4 (sa4 rfl) dX8_insert_46 ?_
          refine v_goto (pc := 49) cx 18 dX8_insert_49 rfl ?_
          rw [show ((q : Int) + -1) = ((q - 1 : Nat) : Int) by omega]
          exact ih (q - 1) E2 (by omega) (by omega) h2 (fun j hj => (hF2 j hj).trans (hFr j hj)) (hp.trans (insP_lt (by omega) (by omega)))
  obtain ⟨h0, hb, hl, hr⟩ := id h
  refine v_aload_n (pc := 0) cx rfl ga0 dX8_insert_0 ?_
  refine v_getfield (pc := 1) cx flX8_25 (by assumption) gf3 dX8_insert_1 ?_
  refine v_bipush (pc := 4) cx (by decide) dX8_insert_4 ?_
  refine v_icmp_lt (pc := 6) cx 12 dX8_insert_6 rfl (by omega) (fun c6 => ?_) (fun c6 => ?_)
  · refine v_aload_n (pc := 12) cx rfl ga0 dX8_insert_12 ?_
    refine v_getfield (pc := 13) cx flX8_25 (by assumption) gf3 dX8_insert_13 ?_
    refine v_istore (pc := 16) cx (sa4 rfl) dX8_insert_16 ?_
    exact loop (m + 1) m E (Nat.le_refl _) (by omega) (by rw [shF_m, shF_m, shF_m]; exact h) (fun _ _ => rfl) rfl
  · omega
theorem lst_push {b l r : Nat → Int} {k : Nat} {x y w : Int} : lst (upI b k x) (upI l k y) (upI r k w) (k + 1) = lst b l r k ++ [(x, y, w)] := by
  rw [lst_succ, upI_s, upI_s, upI_s]
  congr 1
  exact lst_ext (fun j hj => ⟨upI_n (by omega), upI_n (by omega), upI_n (by omega)⟩)
set_option maxRecDepth 100000 in
set_option maxHeartbeats 4000000 in
theorem c_Sh_removeEnded (lc : Launch) (G : Gc) (E : Wd) (nh : Nat) {o m : Nat} {t : Int} {b l r : Nat → Int} (h : rSh G E o (m : Int) b l r) (hm : m ≤ 12) (ht : 0 ≤ t ∧ t < 1000000) (hr0 : ∀ j, j < m → (0 ≤ b j ∧ b j ≤ 5000) ∧ (1 ≤ l j ∧ l j ≤ 500)) : CV lc G 1 yX8_removeEnded cX8_removeEnded 4 [.ref (gb G + o), .int (iI t)] E nh 0 0 (fun E' => (∃ (m' : Nat) (b' l' r' : Nat → Int), rSh G E' o m' b' l' r' ∧ lst b' l' r' m' = (lst b l r m).filter (fun x => decide (t < x.1 + x.2.1)) ∧ m' ≤ m) ∧ Out E E' o (o + 4)) := by
  refine CV.mk (by decide +kernel) rfl (Nat.le_of_ble_eq_true rfl) ?_
  intro X hG hL cx hR hI hini
  subst hG; subst hL
  show V X E (nh, 0, 0) 0 [some (.ref (gb (fG X) + o)), some (.int (iI t)), none, none] []
  have loop : ∀ (d i k : Nat) (b' l' r' : Nat → Int) (E' : Wd), i ≤ m → k ≤ i → m - i < d → rSh (fG X) E' o m b' l' r' → lst b' l' r' k = (lst b l r i).filter (fun x => decide (t < x.1 + x.2.1)) → (∀ j, i ≤ j → b' j = b j ∧ l' j = l j ∧ r' j = r j) → Out E E' o (o + 4) → V X E' (nh, 0, 0) 4 [some (.ref (gb (fG X) + o)), some (.int (iI t)), some (.int (iI (k : Int))), some (.int (iI (i : Int)))] [] := by
    intro d
    induction d with
    | zero => intro i k b' l' r' E' hq hd; omega
    | succ d ih =>
      intro i k b' l' r' E' hi hk hd h hls hsame hFr
      obtain ⟨h0, hb, hl, hr⟩ := id h
      refine v_iload_n (pc := 4) cx rfl ga3 dX8_removeEnded_4 ?_
      refine v_aload_n (pc := 5) cx rfl ga0 dX8_removeEnded_5 ?_
      refine v_getfield (pc := 6) cx flX8_25 (by assumption) gf3 dX8_removeEnded_6 ?_
      refine v_icmp_ge (pc := 9) cx 44 dX8_removeEnded_9 rfl (by omega) (fun c9 => ?_) (fun c9 => ?_)
      · have e : i = m := by omega
        subst e
        refine v_aload_n (pc := 44) cx rfl ga0 dX8_removeEnded_44 ?_
        refine v_iload_n (pc := 45) cx rfl ga2 dX8_removeEnded_45 ?_
        refine v_putfield (pc := 46) cx fpX8_25 h0 ⟨rfl, rfl⟩ pf3 dX8_removeEnded_46 (fun E46 hE46 hF46 => ?_)
        replace h0 := hE46
        replace hb := (hF46 _ (by omega)).trans hb
        replace hl := (hF46 _ (by omega)).trans hl
        replace hr := (hF46 _ (by omega)).trans hr
        replace hFr := fun j hj => (hF46 j (by omega)).trans (hFr j hj)
        refine v_return (pc := 49) cx hI ?_ dX8_removeEnded_49
        exact ⟨⟨k, b', l', r', ⟨h0, hb, hl, hr⟩, hls, hk⟩, hFr⟩
      · have hk1 := hr0 i (by omega)
        obtain ⟨s1, s2, s3⟩ := hsame i (Nat.le_refl _)
        refine v_aload_n (pc := 12) cx rfl ga0 dX8_removeEnded_12 ?_
        refine v_getfield (pc := 13) cx flX8_9 (by assumption) gf0 dX8_removeEnded_13 ?_
        refine v_iload_n (pc := 16) cx rfl ga3 dX8_removeEnded_16 ?_
        refine v_iaload (pc := 17) cx (i) (by assumption) (by omega) dX8_removeEnded_17 ?_
        refine v_aload_n (pc := 18) cx rfl ga0 dX8_removeEnded_18 ?_
        refine v_getfield (pc := 19) cx flX8_15 (by assumption) gf1 dX8_removeEnded_19 ?_
        refine v_iload_n (pc := 22) cx rfl ga3 dX8_removeEnded_22 ?_
        refine v_iaload (pc := 23) cx (i) (by assumption) (by omega) dX8_removeEnded_23 ?_
        refine v_iadd (pc := 24) cx dX8_removeEnded_24 ?_
        refine v_iload_n (pc := 25) cx rfl ga1 dX8_removeEnded_25 ?_
        refine v_icmp_le (pc := 26) cx 38 dX8_removeEnded_26 rfl (by omega) (fun c26 => ?_) (fun c26 => ?_)
        · refine v_iinc (pc := 38) cx ga3 (sa3 rfl) dX8_removeEnded_38 ?_
          refine v_goto (pc := 41) cx 4 dX8_removeEnded_41 rfl ?_
          refine ih (i + 1) k b' l' r' E' (by omega) (by omega) (by omega) h ?_ (fun j hj => hsame j (by omega)) hFr
          rw [lst_succ, List.filter_append, hls, List.filter_cons_of_neg (by simp; omega)]
          simp
        · refine v_aload_n (pc := 29) cx rfl ga0 dX8_removeEnded_29 ?_
          refine v_iload_n (pc := 30) cx rfl ga3 dX8_removeEnded_30 ?_
          refine v_iload_n (pc := 31) cx rfl ga2 dX8_removeEnded_31 ?_
          refine v_callVV (pc := 32) cx hR (c_Sh_move _ _ _ _ h (by omega) (by omega)) mlX8_29 (by decide) (by assumption) rfl rfl rfl (Nat.le_of_ble_eq_true rfl) ⟨Nat.le_refl _, Nat.le_refl _⟩ dX8_removeEnded_32 (fun E2 hP => ?_)
          obtain ⟨h2, hF2⟩ := hP
          refine v_iinc (pc := 35) cx ga2 (sa2 rfl) dX8_removeEnded_35 ?_
          refine v_iinc (pc := 38) cx ga3 (sa3 rfl) dX8_removeEnded_38 ?_
          refine v_goto (pc := 41) cx 4 dX8_removeEnded_41 rfl ?_
          refine ih (i + 1) (k + 1) _ _ _ E2 (by omega) (by omega) (by omega) h2 ?_ (fun j hj => ?_) (fun j hj => (hF2 j hj).trans (hFr j hj))
          · rw [lst_push, lst_succ, List.filter_append, hls, List.filter_cons_of_pos (by simp; omega), s1, s2, s3]
            simp
          · obtain ⟨u1, u2, u3⟩ := hsame j (by omega)
            rw [upI_n (by omega), upI_n (by omega), upI_n (by omega)]
            exact ⟨u1, u2, u3⟩
  refine v_iconst (pc := 0) cx dX8_removeEnded_0 ?_
  refine v_istore_n (pc := 1) cx rfl (sa2 rfl) dX8_removeEnded_1 ?_
  refine v_iconst (pc := 2) cx dX8_removeEnded_2 ?_
  refine v_istore_n (pc := 3) cx rfl (sa3 rfl) dX8_removeEnded_3 ?_
  exact loop (m + 1) 0 0 b l r E (by omega) (by omega) (by omega) h rfl (fun _ _ => ⟨rfl, rfl, rfl⟩) (fun _ _ => rfl)
set_option maxRecDepth 100000 in
set_option maxHeartbeats 4000000 in
theorem c_Sh_ticksToCome (lc : Launch) (G : Gc) (E : Wd) (nh : Nat) {o m k : Nat} {t : Int} {b l r : Nat → Int} (h : rSh G E o (m : Int) b l r) (hm : m ≤ 12) (hk : k < m) (ht : 0 ≤ t ∧ t < 1000000) (hr0 : ∀ j, j < m → (0 ≤ b j ∧ b j ≤ 5000) ∧ (1 ≤ l j ∧ l j ≤ 500)) : CI lc G 1 yX8_ticksToCome cX8_ticksToCome 3 .int [.ref (gb G + o), .int (iI (k : Int)), .int (iI t)] E nh 0 0 (fun v E' => v = b k + l k - max (b k) t ∧ E' = E) := by
  refine CI.mk (by decide +kernel) rfl (Nat.le_of_ble_eq_true rfl) ?_
  intro X hG hL cx hR hI
  subst hG; subst hL
  show V X E (nh, 0, 0) 0 [some (.ref (gb (fG X) + o)), some (.int (iI (k : Int))), some (.int (iI t))] []
  obtain ⟨h0, hb, hl, hr⟩ := id h
  have hk1 := hr0 k hk
  refine v_aload_n (pc := 0) cx rfl ga0 dX8_ticksToCome_0 ?_
  refine v_iload_n (pc := 1) cx rfl ga1 dX8_ticksToCome_1 ?_
  refine v_callVI (pc := 2) cx hR (c_Sh_has _ _ _ _ h (by omega) (by omega)) mlX8_33 (by decide) (by assumption) rfl rfl rfl (Nat.le_of_ble_eq_true rfl) ⟨Nat.le_refl _, Nat.le_refl _⟩ dX8_ticksToCome_2 (fun v E2 hP => ?_)
  obtain ⟨hv, rfl⟩ := hP
  refine v_if_ne (pc := 5) cx 10 dX8_ticksToCome_5 rfl (by omega) (fun c5 => ?_) (fun c5 => ?_)
  · refine v_aload_n (pc := 10) cx rfl ga0 dX8_ticksToCome_10 ?_
    refine v_getfield (pc := 11) cx flX8_9 (by assumption) gf0 dX8_ticksToCome_11 ?_
    refine v_iload_n (pc := 14) cx rfl ga1 dX8_ticksToCome_14 ?_
    refine v_iaload (pc := 15) cx (k) (by assumption) (by omega) dX8_ticksToCome_15 ?_
    refine v_aload_n (pc := 16) cx rfl ga0 dX8_ticksToCome_16 ?_
    refine v_getfield (pc := 17) cx flX8_15 (by assumption) gf1 dX8_ticksToCome_17 ?_
    refine v_iload_n (pc := 20) cx rfl ga1 dX8_ticksToCome_20 ?_
    refine v_iaload (pc := 21) cx (k) (by assumption) (by omega) dX8_ticksToCome_21 ?_
    refine v_iadd (pc := 22) cx dX8_ticksToCome_22 ?_
    refine v_aload_n (pc := 23) cx rfl ga0 dX8_ticksToCome_23 ?_
    refine v_getfield (pc := 24) cx flX8_9 (by assumption) gf0 dX8_ticksToCome_24 ?_
    refine v_iload_n (pc := 27) cx rfl ga1 dX8_ticksToCome_27 ?_
    refine v_iaload (pc := 28) cx (k) (by assumption) (by omega) dX8_ticksToCome_28 ?_
    refine v_iload_n (pc := 29) cx rfl ga2 dX8_ticksToCome_29 ?_
    refine v_callSI (pc := 30) cx hR (c_max _ _ _ _ (by omega)) mlX8_37 (by decide) rfl (Nat.le_of_ble_eq_true rfl) ⟨Nat.le_refl _, Nat.le_refl _⟩ dX8_ticksToCome_30 (fun v2 E3 hP => ?_)
    obtain ⟨rfl, rfl⟩ := hP
    refine v_isub (pc := 33) cx dX8_ticksToCome_33 ?_
    refine v_ireturn (pc := 34) cx hI rfl ?_ dX8_ticksToCome_34
    exact ⟨rfl, rfl⟩
  · omega
theorem cpyI_in {f g : Nat → Int} {m j : Nat} (h : j < m) : cpyI f g 0 0 m j = f j := by
  unfold cpyI
  rw [if_pos ⟨Nat.zero_le _, by omega⟩]
  congr 1
  omega
set_option maxRecDepth 100000 in
set_option maxHeartbeats 4000000 in
theorem c_Sh_copyFrom (lc : Launch) (G : Gc) (E : Wd) (nh : Nat) {o oo : Nat} {m m' : Int} {b l r b' l' r' : Nat → Int} (h : rSh G E o m b l r) (h' : rSh G E oo m' b' l' r') (hd : o + 4 ≤ oo ∨ oo + 4 ≤ o) : CV lc G 2 yX8_copyFrom cX8_copyFrom 2 [.ref (gb G + o), .ref (gb G + oo)] E nh 0 0 (fun E' => (∃ b2 l2 r2 : Nat → Int, rSh G E' o m' b2 l2 r2 ∧ ∀ j, j < 12 → b2 j = b' j ∧ l2 j = l' j ∧ r2 j = r' j) ∧ Out E E' o (o + 4)) := by
  refine CV.mk (by decide +kernel) rfl (Nat.le_of_ble_eq_true rfl) ?_
  intro X hG hL cx hR hI hini
  subst hG; subst hL
  show V X E (nh, 0, 0) 0 [some (.ref (gb (fG X) + o)), some (.ref (gb (fG X) + oo))] []
  obtain ⟨h0, hb, hl, hr⟩ := id h
  obtain ⟨g0, gb1, gl, gr⟩ := id h'
  have hFr : Out E E o (o + 4) := fun j hj => rfl
  refine v_aload_n (pc := 0) cx rfl ga1 dX8_copyFrom_0 ?_
  refine v_getfield (pc := 1) cx flX8_9 (by assumption) gf0 dX8_copyFrom_1 ?_
  refine v_aload_n (pc := 4) cx rfl ga0 dX8_copyFrom_4 ?_
  refine v_getfield (pc := 5) cx flX8_9 (by assumption) gf0 dX8_copyFrom_5 ?_
  refine v_callSV (pc := 8) cx hR (c_copyRow _ _ _ _ (by omega) gb1 hb) mlX8_21 (by decide) rfl (Nat.le_of_ble_eq_true rfl) ⟨Nat.le_refl _, Nat.le_refl _⟩ dX8_copyFrom_8 (fun E1 hP => ?_)
  obtain ⟨hb, hF⟩ := hP
  replace h0 := (hF _ (by omega)).trans h0
  replace hl := (hF _ (by omega)).trans hl
  replace hr := (hF _ (by omega)).trans hr
  replace g0 := (hF _ (by omega)).trans g0
  replace gb1 := (hF _ (by omega)).trans gb1
  replace gl := (hF _ (by omega)).trans gl
  replace gr := (hF _ (by omega)).trans gr
  replace hFr := fun j hj => (hF j (by omega)).trans (hFr j hj)
  refine v_aload_n (pc := 11) cx rfl ga1 dX8_copyFrom_11 ?_
  refine v_getfield (pc := 12) cx flX8_15 (by assumption) gf1 dX8_copyFrom_12 ?_
  refine v_aload_n (pc := 15) cx rfl ga0 dX8_copyFrom_15 ?_
  refine v_getfield (pc := 16) cx flX8_15 (by assumption) gf1 dX8_copyFrom_16 ?_
  refine v_callSV (pc := 19) cx hR (c_copyRow _ _ _ _ (by omega) gl hl) mlX8_21 (by decide) rfl (Nat.le_of_ble_eq_true rfl) ⟨Nat.le_refl _, Nat.le_refl _⟩ dX8_copyFrom_19 (fun E1 hP => ?_)
  obtain ⟨hl, hF⟩ := hP
  replace h0 := (hF _ (by omega)).trans h0
  replace hb := (hF _ (by omega)).trans hb
  replace hr := (hF _ (by omega)).trans hr
  replace g0 := (hF _ (by omega)).trans g0
  replace gb1 := (hF _ (by omega)).trans gb1
  replace gl := (hF _ (by omega)).trans gl
  replace gr := (hF _ (by omega)).trans gr
  replace hFr := fun j hj => (hF j (by omega)).trans (hFr j hj)
  refine v_aload_n (pc := 22) cx rfl ga1 dX8_copyFrom_22 ?_
  refine v_getfield (pc := 23) cx flX8_18 (by assumption) gf2 dX8_copyFrom_23 ?_
  refine v_aload_n (pc := 26) cx rfl ga0 dX8_copyFrom_26 ?_
  refine v_getfield (pc := 27) cx flX8_18 (by assumption) gf2 dX8_copyFrom_27 ?_
  refine v_callSV (pc := 30) cx hR (c_copyRow _ _ _ _ (by omega) gr hr) mlX8_21 (by decide) rfl (Nat.le_of_ble_eq_true rfl) ⟨Nat.le_refl _, Nat.le_refl _⟩ dX8_copyFrom_30 (fun E1 hP => ?_)
  obtain ⟨hr, hF⟩ := hP
  replace h0 := (hF _ (by omega)).trans h0
  replace hb := (hF _ (by omega)).trans hb
  replace hl := (hF _ (by omega)).trans hl
  replace g0 := (hF _ (by omega)).trans g0
  replace gb1 := (hF _ (by omega)).trans gb1
  replace gl := (hF _ (by omega)).trans gl
  replace gr := (hF _ (by omega)).trans gr
  replace hFr := fun j hj => (hF j (by omega)).trans (hFr j hj)
  refine v_aload_n (pc := 33) cx rfl ga0 dX8_copyFrom_33 ?_
  refine v_aload_n (pc := 34) cx rfl ga1 dX8_copyFrom_34 ?_
  refine v_getfield (pc := 35) cx flX8_25 (by assumption) gf3 dX8_copyFrom_35 ?_
  refine v_putfield (pc := 38) cx fpX8_25 h0 ⟨rfl, rfl⟩ pf3 dX8_copyFrom_38 (fun E38 hE38 hF38 => ?_)
  replace h0 := hE38
  replace hb := (hF38 _ (by omega)).trans hb
  replace hl := (hF38 _ (by omega)).trans hl
  replace hr := (hF38 _ (by omega)).trans hr
  replace hFr := fun j hj => (hF38 j (by omega)).trans (hFr j hj)
  refine v_return (pc := 41) cx hI ?_ dX8_copyFrom_41
  exact ⟨⟨_, _, _, ⟨h0, hb, hl, hr⟩, fun j hj => ⟨cpyI_in hj, cpyI_in hj, cpyI_in hj⟩⟩, hFr⟩
end
section
/-! film, bucket, clock, gears -/
def fTaken (rain cap c : Int) : Int := min rain (max 0 (cap - c))
def fGone (rain cap c dg : Int) : Int := if rain = 0 then min (c + fTaken rain cap c) dg else 0
abbrev oFi (c d : Int) : va_E := .inr (2, [.int (iI c), .int (iI d)])
set_option maxRecDepth 100000 in
set_option maxHeartbeats 4000000 in
theorem c_Fi_passTick (lc : Launch) (G : Gc) (E : Wd) (nh : Nat) {o : Nat} {rain cap dg c d : Int} (h : E o = some (oFi c d)) (hr : (0 ≤ rain ∧ rain ≤ 2400) ∧ (0 ≤ cap ∧ cap ≤ 200) ∧ (0 ≤ dg ∧ dg ≤ 50) ∧ (0 ≤ c ∧ c ≤ 200)) : CI lc G 1 yX2_passTick cX2_passTick 6 .int [.ref (gb G + o), .int (iI rain), .int (iI cap), .int (iI dg)] E nh 0 0 (fun v E' => v = rain - fTaken rain cap c ∧ E' o = some (oFi (c + fTaken rain cap c - fGone rain cap c dg) (d + fGone rain cap c dg)) ∧ Out E E' o (o + 1)) := by
  refine CI.mk (by decide +kernel) rfl (Nat.le_of_ble_eq_true rfl) ?_
  intro X hG hL cx hR hI
  subst hG; subst hL
  show V X E (nh, 0, 0) 0 [some (.ref (gb (fG X) + o)), some (.int (iI rain)), some (.int (iI cap)), some (.int (iI dg)), none, none] []
  have h0 := h
  have hFr : Out E E o (o + 1) := fun j hj => rfl
  refine v_iload_n (pc := 0) cx rfl ga1 dX2_passTick_0 ?_
  refine v_iconst (pc := 1) cx dX2_passTick_1 ?_
  refine v_iload_n (pc := 2) cx rfl ga2 dX2_passTick_2 ?_
  refine v_aload_n (pc := 3) cx rfl ga0 dX2_passTick_3 ?_
  refine v_getfield (pc := 4) cx flX2_7 (by assumption) gf0 dX2_passTick_4 ?_
  refine v_isub (pc := 7) cx dX2_passTick_7 ?_
  refine v_callSI (pc := 8) cx hR (c_max _ _ _ _ (by omega)) mlX2_16 (by decide) rfl (Nat.le_of_ble_eq_true rfl) ⟨Nat.le_refl _, Nat.le_refl _⟩ dX2_passTick_8 (fun v2 E3 hP => ?_)
  obtain ⟨rfl, rfl⟩ := hP
  refine v_callSI (pc := 11) cx hR (c_min _ _ _ _ (by omega)) mlX2_22 (by decide) rfl (Nat.le_of_ble_eq_true rfl) ⟨Nat.le_refl _, Nat.le_refl _⟩ dX2_passTick_11 (fun v2 E3 hP => ?_)
  obtain ⟨rfl, rfl⟩ := hP
  refine v_istore (pc := 14) cx (sa4 rfl) dX2_passTick_14 ?_
  refine v_aload_n (pc := 16) cx rfl ga0 dX2_passTick_16 ?_
  refine v_dup (pc := 17) cx rfl dX2_passTick_17 ?_
  refine v_getfield (pc := 18) cx flX2_7 (by assumption) gf0 dX2_passTick_18 ?_
  refine v_iload (pc := 21) cx ga4 dX2_passTick_21 ?_
  refine v_iadd (pc := 23) cx dX2_passTick_23 ?_
  refine v_putfield (pc := 24) cx fpX2_7 h0 ⟨rfl, rfl⟩ pf0 dX2_passTick_24 (fun E24 hE24 hF24 => ?_)
  replace h0 := hE24
  replace hFr := fun j hj => (hF24 j (by omega)).trans (hFr j hj)
  refine v_iload_n (pc := 27) cx rfl ga1 dX2_passTick_27 ?_
  refine v_if_ne (pc := 28) cx 63 dX2_passTick_28 rfl (by omega) (fun c28 => ?_) (fun c28 => ?_)
  · refine v_iload_n (pc := 63) cx rfl ga1 dX2_passTick_63 ?_
    refine v_iload (pc := 64) cx ga4 dX2_passTick_64 ?_
    refine v_isub (pc := 66) cx dX2_passTick_66 ?_
    refine v_ireturn (pc := 67) cx hI rfl ?_ dX2_passTick_67
    have e : fGone rain cap c dg = 0 := by unfold fGone; rw [if_neg c28]
    rw [e, Int.sub_zero, Int.add_zero]
    exact ⟨rfl, h0, hFr⟩
  · refine v_aload_n (pc := 31) cx rfl ga0 dX2_passTick_31 ?_
    refine v_getfield (pc := 32) cx flX2_7 (by assumption) gf0 dX2_passTick_32 ?_
    refine v_iload_n (pc := 35) cx rfl ga3 dX2_passTick_35 ?_
    refine v_callSI (pc := 36) cx hR (c_min _ _ _ _ (by omega)) mlX2_22 (by decide) rfl (Nat.le_of_ble_eq_true rfl) ⟨Nat.le_refl _, Nat.le_refl _⟩ dX2_passTick_36 (fun v3 E4 hP => ?_)
    obtain ⟨rfl, rfl⟩ := hP
    refine v_istore (pc := 39) cx (sa5 rfl) dX2_passTick_39 ?_
    refine v_aload_n (pc := 41) cx rfl ga0 dX2_passTick_41 ?_
    refine v_dup (pc := 42) cx rfl dX2_passTick_42 ?_
    refine v_getfield (pc := 43) cx flX2_7 (by assumption) gf0 dX2_passTick_43 ?_
    refine v_iload (pc := 46) cx ga5 dX2_passTick_46 ?_
    refine v_isub (pc := 48) cx dX2_passTick_48 ?_
    refine v_putfield (pc := 49) cx fpX2_7 h0 ⟨rfl, rfl⟩ pf0 dX2_passTick_49 (fun E49 hE49 hF49 => ?_)
    replace h0 := hE49
    replace hFr := fun j hj => (hF49 j (by omega)).trans (hFr j hj)
    refine v_aload_n (pc := 52) cx rfl ga0 dX2_passTick_52 ?_
    refine v_dup (pc := 53) cx rfl dX2_passTick_53 ?_
    refine v_getfield (pc := 54) cx flX2_13 (by assumption) gf1 dX2_passTick_54 ?_
    refine v_iload (pc := 57) cx ga5 dX2_passTick_57 ?_
    refine v_iadd (pc := 59) cx dX2_passTick_59 ?_
    refine v_putfield (pc := 60) cx fpX2_13 h0 ⟨rfl, rfl⟩ pf1 dX2_passTick_60 (fun E60 hE60 hF60 => ?_)
    replace h0 := hE60
    replace hFr := fun j hj => (hF60 j (by omega)).trans (hFr j hj)
    refine v_iload_n (pc := 63) cx rfl ga1 dX2_passTick_63 ?_
    refine v_iload (pc := 64) cx ga4 dX2_passTick_64 ?_
    refine v_isub (pc := 66) cx dX2_passTick_66 ?_
    refine v_ireturn (pc := 67) cx hI rfl ?_ dX2_passTick_67
    have e : fGone rain cap c dg = min (c + fTaken rain cap c) dg := by unfold fGone; rw [if_pos c28]
    rw [e]
    exact ⟨rfl, h0, hFr⟩
set_option maxRecDepth 100000 in
set_option maxHeartbeats 4000000 in
theorem c_Fi_copyFrom (lc : Launch) (G : Gc) (E : Wd) (nh : Nat) {o oo : Nat} {c d c' d' : Int} (h : E o = some (oFi c d)) (h' : E oo = some (oFi c' d')) (hd : o ≠ oo) : CV lc G 0 yX2_copyFrom cX2_copyFrom 2 [.ref (gb G + o), .ref (gb G + oo)] E nh 0 0 (fun E' => E' o = some (oFi c' d') ∧ Out E E' o (o + 1)) := by
  refine CV.mk (by decide +kernel) rfl (Nat.le_of_ble_eq_true rfl) ?_
  intro X hG hL cx hR hI hini
  subst hG; subst hL
  show V X E (nh, 0, 0) 0 [some (.ref (gb (fG X) + o)), some (.ref (gb (fG X) + oo))] []
  have h0 := h
  have g0 := h'
  have hFr : Out E E o (o + 1) := fun j hj => rfl
  refine v_aload_n (pc := 0) cx rfl ga0 dX2_copyFrom_0 ?_
  refine v_aload_n (pc := 1) cx rfl ga1 dX2_copyFrom_1 ?_
  refine v_getfield (pc := 2) cx flX2_7 (by assumption) gf0 dX2_copyFrom_2 ?_
  refine v_putfield (pc := 5) cx fpX2_7 h0 ⟨rfl, rfl⟩ pf0 dX2_copyFrom_5 (fun E5 hE5 hF5 => ?_)
  replace h0 := hE5
  replace g0 := (hF5 _ (by omega)).trans g0
  replace hFr := fun j hj => (hF5 j (by omega)).trans (hFr j hj)
  refine v_aload_n (pc := 8) cx rfl ga0 dX2_copyFrom_8 ?_
  refine v_aload_n (pc := 9) cx rfl ga1 dX2_copyFrom_9 ?_
  refine v_getfield (pc := 10) cx flX2_13 (by assumption) gf1 dX2_copyFrom_10 ?_
  refine v_putfield (pc := 13) cx fpX2_13 h0 ⟨rfl, rfl⟩ pf1 dX2_copyFrom_13 (fun E13 hE13 hF13 => ?_)
  replace h0 := hE13
  replace g0 := (hF13 _ (by omega)).trans g0
  replace hFr := fun j hj => (hF13 j (by omega)).trans (hFr j hj)
  refine v_return (pc := 16) cx hI ?_ dX2_copyFrom_16
  exact ⟨h0, hFr⟩
abbrev BT : Type := Int × Int × Int × Int × Int × Int
abbrev oBk (B : BT) : va_E := .inr (0, [.int (iI B.1), .int (iI B.2.1), .int (iI B.2.2.1), .int (iI B.2.2.2.1), .int (iI B.2.2.2.2.1), .int (iI B.2.2.2.2.2)])
def bGone (c rain d dg : Int) : Int := if d ≠ 0 then min (c + rain) dg else 0
def bS (rain d cap tt dg : Int) (B : BT) : BT :=
  if 0 < B.2.1 then (B.1, B.2.1 - 1, B.2.2.1, B.2.2.2.1, B.2.2.2.2.1 + rain, B.2.2.2.2.2)
  else if cap ≤ B.1 + rain - bGone B.1 rain d dg then (0, tt, B.2.2.1 + cap, B.2.2.2.1 + (B.1 + rain - bGone B.1 rain d dg - cap), B.2.2.2.2.1, B.2.2.2.2.2 + bGone B.1 rain d dg)
  else (B.1 + rain - bGone B.1 rain d dg, B.2.1, B.2.2.1, B.2.2.2.1, B.2.2.2.2.1, B.2.2.2.2.2 + bGone B.1 rain d dg)
def bR (rain d cap dg : Int) (B : BT) : Int :=
  if 0 < B.2.1 then -1 else if cap ≤ B.1 + rain - bGone B.1 rain d dg then B.1 + rain - bGone B.1 rain d dg - cap else -1
set_option maxRecDepth 100000 in
set_option maxHeartbeats 4000000 in
theorem c_Bk_tip (lc : Launch) (G : Gc) (E : Wd) (nh : Nat) {o : Nat} {c tl ti ov lo dr cap tt : Int} (h : E o = some (oBk (c, tl, ti, ov, lo, dr))) : CI lc G 0 yX0_tip cX0_tip 4 .int [.ref (gb G + o), .int (iI cap), .int (iI tt)] E nh 0 0 (fun v E' => v = c - cap ∧ E' o = some (oBk (0, tt, ti + cap, ov + (c - cap), lo, dr)) ∧ Out E E' o (o + 1)) := by
  refine CI.mk (by decide +kernel) rfl (Nat.le_of_ble_eq_true rfl) ?_
  intro X hG hL cx hR hI
  subst hG; subst hL
  show V X E (nh, 0, 0) 0 [some (.ref (gb (fG X) + o)), some (.int (iI cap)), some (.int (iI tt)), none] []
  have h0 := h
  have hFr : Out E E o (o + 1) := fun j hj => rfl
  refine v_aload_n (pc := 0) cx rfl ga0 dX0_tip_0 ?_
  refine v_getfield (pc := 1) cx flX0_9 (by assumption) gf0 dX0_tip_1 ?_
  refine v_iload_n (pc := 4) cx rfl ga1 dX0_tip_4 ?_
  refine v_isub (pc := 5) cx dX0_tip_5 ?_
  refine v_istore_n (pc := 6) cx rfl (sa3 rfl) dX0_tip_6 ?_
  refine v_aload_n (pc := 7) cx rfl ga0 dX0_tip_7 ?_
  refine v_dup (pc := 8) cx rfl dX0_tip_8 ?_
  refine v_getfield (pc := 9) cx flX0_18 (by assumption) gf2 dX0_tip_9 ?_
  refine v_iload_n (pc := 12) cx rfl ga1 dX0_tip_12 ?_
  refine v_iadd (pc := 13) cx dX0_tip_13 ?_
  refine v_putfield (pc := 14) cx fpX0_18 h0 ⟨rfl, rfl⟩ pf2 dX0_tip_14 (fun E14 hE14 hF14 => ?_)
  replace h0 := hE14
  replace hFr := fun j hj => (hF14 j (by omega)).trans (hFr j hj)
  refine v_aload_n (pc := 17) cx rfl ga0 dX0_tip_17 ?_
  refine v_dup (pc := 18) cx rfl dX0_tip_18 ?_
  refine v_getfield (pc := 19) cx flX0_21 (by assumption) gf3 dX0_tip_19 ?_
  refine v_iload_n (pc := 22) cx rfl ga3 dX0_tip_22 ?_
  refine v_iadd (pc := 23) cx dX0_tip_23 ?_
  refine v_putfield (pc := 24) cx fpX0_21 h0 ⟨rfl, rfl⟩ pf3 dX0_tip_24 (fun E24 hE24 hF24 => ?_)
  replace h0 := hE24
  replace hFr := fun j hj => (hF24 j (by omega)).trans (hFr j hj)
  refine v_aload_n (pc := 27) cx rfl ga0 dX0_tip_27 ?_
  refine v_iconst (pc := 28) cx dX0_tip_28 ?_
  refine v_putfield (pc := 29) cx fpX0_9 h0 ⟨rfl, rfl⟩ pf0 dX0_tip_29 (fun E29 hE29 hF29 => ?_)
  replace h0 := hE29
  replace hFr := fun j hj => (hF29 j (by omega)).trans (hFr j hj)
  refine v_aload_n (pc := 32) cx rfl ga0 dX0_tip_32 ?_
  refine v_iload_n (pc := 33) cx rfl ga2 dX0_tip_33 ?_
  refine v_putfield (pc := 34) cx fpX0_15 h0 ⟨rfl, rfl⟩ pf1 dX0_tip_34 (fun E34 hE34 hF34 => ?_)
  replace h0 := hE34
  replace hFr := fun j hj => (hF34 j (by omega)).trans (hFr j hj)
  refine v_iload_n (pc := 37) cx rfl ga3 dX0_tip_37 ?_
  refine v_ireturn (pc := 38) cx hI rfl ?_ dX0_tip_38
  exact ⟨rfl, h0, hFr⟩
set_option maxRecDepth 100000 in
set_option maxHeartbeats 4000000 in
theorem c_Bk_passTick (lc : Launch) (G : Gc) (E : Wd) (nh : Nat) {o : Nat} {rain d cap tt dg : Int} {B : BT} (h : E o = some (oBk B)) (hr : (0 ≤ rain ∧ rain ≤ 2400) ∧ (d = 0 ∨ d = 1) ∧ (20 ≤ cap ∧ cap ≤ 500) ∧ (0 ≤ dg ∧ dg ≤ 50) ∧ (0 ≤ B.1 ∧ B.1 ≤ 100000000) ∧ (0 ≤ B.2.1 ∧ B.2.1 ≤ 20)) : CI lc G 1 yX0_passTick cX0_passTick 7 .int [.ref (gb G + o), .int (iI rain), .int (iI d), .int (iI cap), .int (iI tt), .int (iI dg)] E nh 0 0 (fun v E' => v = bR rain d cap dg B ∧ E' o = some (oBk (bS rain d cap tt dg B)) ∧ Out E E' o (o + 1)) := by
  refine CI.mk (by decide +kernel) rfl (Nat.le_of_ble_eq_true rfl) ?_
  intro X hG hL cx hR hI
  subst hG; subst hL
  show V X E (nh, 0, 0) 0 [some (.ref (gb (fG X) + o)), some (.int (iI rain)), some (.int (iI d)), some (.int (iI cap)), some (.int (iI tt)), some (.int (iI dg)), none] []
  obtain ⟨c, tl, ti, ov, lo, dr⟩ := B
  simp only at hr
  have h0 := h
  dsimp only [oBk] at h0
  have hFr : Out E E o (o + 1) := fun j hj => rfl
  have fin : ∀ (E' : Wd) (g : Int) (lw : Option Value), bGone c rain d dg = g → 0 ≤ g ∧ g ≤ c + rain → tl = 0 → E' o = some (oBk (c + rain - g, tl, ti, ov, lo, dr + g)) → Out E E' o (o + 1) → V X E' (nh, 0, 0) 76 [some (.ref (gb (fG X) + o)), some (.int (iI rain)), some (.int (iI d)), some (.int (iI cap)), some (.int (iI tt)), some (.int (iI dg)), lw] [] := by
    intro E' g lw hg hg2 htl h0 hFr
    have h00 := h0
    dsimp only [oBk] at h0
    refine v_aload_n (pc := 76) cx rfl ga0 dX0_passTick_76 ?_
    refine v_getfield (pc := 77) cx flX0_9 (by assumption) gf0 dX0_passTick_77 ?_
    refine v_iload_n (pc := 80) cx rfl ga3 dX0_passTick_80 ?_
    refine v_icmp_lt (pc := 81) cx 94 dX0_passTick_81 rfl (by omega) (fun c81 => ?_) (fun c81 => ?_)
    · refine v_iconst (pc := 94) cx dX0_passTick_94 ?_
      refine v_ireturn (pc := 95) cx hI rfl ?_ dX0_passTick_95
      unfold bR bS
      simp only
      rw [hg, if_neg (by omega), if_neg (by omega), if_neg (by omega), if_neg (by omega)]
      exact ⟨rfl, h0, hFr⟩
    · refine v_aload_n (pc := 84) cx rfl ga0 dX0_passTick_84 ?_
      refine v_iload_n (pc := 85) cx rfl ga3 dX0_passTick_85 ?_
      refine v_iload (pc := 86) cx ga4 dX0_passTick_86 ?_
      refine v_callVI (pc := 88) cx hR (c_Bk_tip _ _ _ _ h00) mlX0_36 (by decide) (by assumption) rfl rfl rfl (Nat.le_of_ble_eq_true rfl) ⟨Nat.le_refl _, Nat.le_refl _⟩ dX0_passTick_88 (fun v2 E3 hP => ?_)
      obtain ⟨rfl, h1, hF1⟩ := hP
      refine v_goto (pc := 91) cx 95 dX0_passTick_91 rfl ?_
      refine v_ireturn (pc := 95) cx hI rfl ?_ dX0_passTick_95
      unfold bR bS
      simp only
      rw [hg, if_neg (by omega), if_pos (by omega), if_neg (by omega), if_pos (by omega)]
      exact ⟨rfl, h1, fun j hj => (hF1 j hj).trans (hFr j hj)⟩
  refine v_aload_n (pc := 0) cx rfl ga0 dX0_passTick_0 ?_
  refine v_getfield (pc := 1) cx flX0_15 (by assumption) gf1 dX0_passTick_1 ?_
  refine v_if_le (pc := 4) cx 29 dX0_passTick_4 rfl (by omega) (fun c4 => ?_) (fun c4 => ?_)
  · refine v_aload_n (pc := 29) cx rfl ga0 dX0_passTick_29 ?_
    refine v_dup (pc := 30) cx rfl dX0_passTick_30 ?_
    refine v_getfield (pc := 31) cx flX0_9 (by assumption) gf0 dX0_passTick_31 ?_
    refine v_iload_n (pc := 34) cx rfl ga1 dX0_passTick_34 ?_
    refine v_iadd (pc := 35) cx dX0_passTick_35 ?_
    refine v_putfield (pc := 36) cx fpX0_9 h0 ⟨rfl, rfl⟩ pf0 dX0_passTick_36 (fun E36 hE36 hF36 => ?_)
    replace h0 := hE36
    replace hFr := fun j hj => (hF36 j (by omega)).trans (hFr j hj)
    refine v_iload_n (pc := 39) cx rfl ga2 dX0_passTick_39 ?_
    refine v_if_eq (pc := 40) cx 76 dX0_passTick_40 rfl (by omega) (fun c40 => ?_) (fun c40 => ?_)
    · refine fin _ 0 _ (by unfold bGone; rw [if_neg (by omega)]) (by omega) (by omega) ?_ hFr
      rw [Int.sub_zero, Int.add_zero]
      exact h0
    · refine v_aload_n (pc := 43) cx rfl ga0 dX0_passTick_43 ?_
      refine v_getfield (pc := 44) cx flX0_9 (by assumption) gf0 dX0_passTick_44 ?_
      refine v_iload (pc := 47) cx ga5 dX0_passTick_47 ?_
      refine v_callSI (pc := 49) cx hR (c_min _ _ _ _ (by omega)) mlX0_30 (by decide) rfl (Nat.le_of_ble_eq_true rfl) ⟨Nat.le_refl _, Nat.le_refl _⟩ dX0_passTick_49 (fun v3 E4 hP => ?_)
      obtain ⟨rfl, rfl⟩ := hP
      refine v_istore (pc := 52) cx (sa6 rfl) dX0_passTick_52 ?_
      refine v_aload_n (pc := 54) cx rfl ga0 dX0_passTick_54 ?_
      refine v_dup (pc := 55) cx rfl dX0_passTick_55 ?_
      refine v_getfield (pc := 56) cx flX0_9 (by assumption) gf0 dX0_passTick_56 ?_
      refine v_iload (pc := 59) cx ga6 dX0_passTick_59 ?_
      refine v_isub (pc := 61) cx dX0_passTick_61 ?_
      refine v_putfield (pc := 62) cx fpX0_9 h0 ⟨rfl, rfl⟩ pf0 dX0_passTick_62 (fun E62 hE62 hF62 => ?_)
      replace h0 := hE62
      replace hFr := fun j hj => (hF62 j (by omega)).trans (hFr j hj)
      refine v_aload_n (pc := 65) cx rfl ga0 dX0_passTick_65 ?_
      refine v_dup (pc := 66) cx rfl dX0_passTick_66 ?_
      refine v_getfield (pc := 67) cx flX0_27 (by assumption) gf5 dX0_passTick_67 ?_
      refine v_iload (pc := 70) cx ga6 dX0_passTick_70 ?_
      refine v_iadd (pc := 72) cx dX0_passTick_72 ?_
      refine v_putfield (pc := 73) cx fpX0_27 h0 ⟨rfl, rfl⟩ pf5 dX0_passTick_73 (fun E73 hE73 hF73 => ?_)
      replace h0 := hE73
      replace hFr := fun j hj => (hF73 j (by omega)).trans (hFr j hj)
      exact fin _ (min (c + rain) dg) _ (by unfold bGone; rw [if_pos c40]) (by omega) (by omega) h0 hFr
  · refine v_aload_n (pc := 7) cx rfl ga0 dX0_passTick_7 ?_
    refine v_dup (pc := 8) cx rfl dX0_passTick_8 ?_
    refine v_getfield (pc := 9) cx flX0_24 (by assumption) gf4 dX0_passTick_9 ?_
    refine v_iload_n (pc := 12) cx rfl ga1 dX0_passTick_12 ?_
    refine v_iadd (pc := 13) cx dX0_passTick_13 ?_
    refine v_putfield (pc := 14) cx fpX0_24 h0 ⟨rfl, rfl⟩ pf4 dX0_passTick_14 (fun E14 hE14 hF14 => ?_)
    replace h0 := hE14
    replace hFr := fun j hj => (hF14 j (by omega)).trans (hFr j hj)
    refine v_aload_n (pc := 17) cx rfl ga0 dX0_passTick_17 ?_
    refine v_dup (pc := 18) cx rfl dX0_passTick_18 ?_
    refine v_getfield (pc := 19) cx flX0_15 (by assumption) gf1 dX0_passTick_19 ?_
    refine v_iconst (pc := 22) cx dX0_passTick_22 ?_
    refine v_isub (pc := 23) cx dX0_passTick_23 ?_
    refine v_putfield (pc := 24) cx fpX0_15 h0 ⟨rfl, rfl⟩ pf1 dX0_passTick_24 (fun E24 hE24 hF24 => ?_)
    replace h0 := hE24
    replace hFr := fun j hj => (hF24 j (by omega)).trans (hFr j hj)
    refine v_iconst (pc := 27) cx dX0_passTick_27 ?_
    refine v_ireturn (pc := 28) cx hI rfl ?_ dX0_passTick_28
    unfold bR bS
    simp only
    rw [if_pos c4, if_pos c4]
    exact ⟨rfl, h0, hFr⟩
set_option maxRecDepth 100000 in
set_option maxHeartbeats 4000000 in
theorem c_Bk_copyFrom (lc : Launch) (G : Gc) (E : Wd) (nh : Nat) {o oo : Nat} {B B' : BT} (h : E o = some (oBk B)) (h' : E oo = some (oBk B')) (hd : o ≠ oo) : CV lc G 0 yX0_copyFrom cX0_copyFrom 2 [.ref (gb G + o), .ref (gb G + oo)] E nh 0 0 (fun E' => E' o = some (oBk B') ∧ Out E E' o (o + 1)) := by
  refine CV.mk (by decide +kernel) rfl (Nat.le_of_ble_eq_true rfl) ?_
  intro X hG hL cx hR hI hini
  subst hG; subst hL
  show V X E (nh, 0, 0) 0 [some (.ref (gb (fG X) + o)), some (.ref (gb (fG X) + oo))] []
  have h0 := h
  have g0 := h'
  have hFr : Out E E o (o + 1) := fun j hj => rfl
  refine v_aload_n (pc := 0) cx rfl ga0 dX0_copyFrom_0 ?_
  refine v_aload_n (pc := 1) cx rfl ga1 dX0_copyFrom_1 ?_
  refine v_getfield (pc := 2) cx flX0_9 (by assumption) gf0 dX0_copyFrom_2 ?_
  refine v_putfield (pc := 5) cx fpX0_9 h0 ⟨rfl, rfl⟩ pf0 dX0_copyFrom_5 (fun E5 hE5 hF5 => ?_)
  replace h0 := hE5
  replace g0 := (hF5 _ (by omega)).trans g0
  replace hFr := fun j hj => (hF5 j (by omega)).trans (hFr j hj)
  refine v_aload_n (pc := 8) cx rfl ga0 dX0_copyFrom_8 ?_
  refine v_aload_n (pc := 9) cx rfl ga1 dX0_copyFrom_9 ?_
  refine v_getfield (pc := 10) cx flX0_15 (by assumption) gf1 dX0_copyFrom_10 ?_
  refine v_putfield (pc := 13) cx fpX0_15 h0 ⟨rfl, rfl⟩ pf1 dX0_copyFrom_13 (fun E13 hE13 hF13 => ?_)
  replace h0 := hE13
  replace g0 := (hF13 _ (by omega)).trans g0
  replace hFr := fun j hj => (hF13 j (by omega)).trans (hFr j hj)
  refine v_aload_n (pc := 16) cx rfl ga0 dX0_copyFrom_16 ?_
  refine v_aload_n (pc := 17) cx rfl ga1 dX0_copyFrom_17 ?_
  refine v_getfield (pc := 18) cx flX0_18 (by assumption) gf2 dX0_copyFrom_18 ?_
  refine v_putfield (pc := 21) cx fpX0_18 h0 ⟨rfl, rfl⟩ pf2 dX0_copyFrom_21 (fun E21 hE21 hF21 => ?_)
  replace h0 := hE21
  replace g0 := (hF21 _ (by omega)).trans g0
  replace hFr := fun j hj => (hF21 j (by omega)).trans (hFr j hj)
  refine v_aload_n (pc := 24) cx rfl ga0 dX0_copyFrom_24 ?_
  refine v_aload_n (pc := 25) cx rfl ga1 dX0_copyFrom_25 ?_
  refine v_getfield (pc := 26) cx flX0_21 (by assumption) gf3 dX0_copyFrom_26 ?_
  refine v_putfield (pc := 29) cx fpX0_21 h0 ⟨rfl, rfl⟩ pf3 dX0_copyFrom_29 (fun E29 hE29 hF29 => ?_)
  replace h0 := hE29
  replace g0 := (hF29 _ (by omega)).trans g0
  replace hFr := fun j hj => (hF29 j (by omega)).trans (hFr j hj)
  refine v_aload_n (pc := 32) cx rfl ga0 dX0_copyFrom_32 ?_
  refine v_aload_n (pc := 33) cx rfl ga1 dX0_copyFrom_33 ?_
  refine v_getfield (pc := 34) cx flX0_24 (by assumption) gf4 dX0_copyFrom_34 ?_
  refine v_putfield (pc := 37) cx fpX0_24 h0 ⟨rfl, rfl⟩ pf4 dX0_copyFrom_37 (fun E37 hE37 hF37 => ?_)
  replace h0 := hE37
  replace g0 := (hF37 _ (by omega)).trans g0
  replace hFr := fun j hj => (hF37 j (by omega)).trans (hFr j hj)
  refine v_aload_n (pc := 40) cx rfl ga0 dX0_copyFrom_40 ?_
  refine v_aload_n (pc := 41) cx rfl ga1 dX0_copyFrom_41 ?_
  refine v_getfield (pc := 42) cx flX0_27 (by assumption) gf5 dX0_copyFrom_42 ?_
  refine v_putfield (pc := 45) cx fpX0_27 h0 ⟨rfl, rfl⟩ pf5 dX0_copyFrom_45 (fun E45 hE45 hF45 => ?_)
  replace h0 := hE45
  replace g0 := (hF45 _ (by omega)).trans g0
  replace hFr := fun j hj => (hF45 j (by omega)).trans (hFr j hj)
  refine v_return (pc := 48) cx hI ?_ dX0_copyFrom_48
  exact ⟨h0, hFr⟩
abbrev oCl (r c : Int) : va_E := .inr (1, [.int (iI r), .int (iI c)])
set_option maxRecDepth 100000 in
set_option maxHeartbeats 4000000 in
theorem c_Cl_passTick (lc : Launch) (G : Gc) (E : Wd) (nh : Nat) {o : Nat} {r c : Int} (h : E o = some (oCl r c)) (hr : 0 ≤ r ∧ r ≤ 2000) : CV lc G 0 yX1_passTick cX1_passTick 1 [.ref (gb G + o)] E nh 0 0 (fun E' => E' o = some (oCl (if 0 < r then r - 1 else r) (if 0 < r then c + 1 else c)) ∧ Out E E' o (o + 1)) := by
  refine CV.mk (by decide +kernel) rfl (Nat.le_of_ble_eq_true rfl) ?_
  intro X hG hL cx hR hI hini
  subst hG; subst hL
  show V X E (nh, 0, 0) 0 [some (.ref (gb (fG X) + o))] []
  have h0 := h
  have hFr : Out E E o (o + 1) := fun j hj => rfl
  refine v_aload_n (pc := 0) cx rfl ga0 dX1_passTick_0 ?_
  refine v_getfield (pc := 1) cx flX1_13 (by assumption) gf0 dX1_passTick_1 ?_
  refine v_if_le (pc := 4) cx 27 dX1_passTick_4 rfl (by omega) (fun c4 => ?_) (fun c4 => ?_)
  · refine v_return (pc := 27) cx hI ?_ dX1_passTick_27
    rw [if_neg (by omega), if_neg (by omega)]
    exact ⟨h0, hFr⟩
  · refine v_aload_n (pc := 7) cx rfl ga0 dX1_passTick_7 ?_
    refine v_dup (pc := 8) cx rfl dX1_passTick_8 ?_
    refine v_getfield (pc := 9) cx flX1_13 (by assumption) gf0 dX1_passTick_9 ?_
    refine v_iconst (pc := 12) cx dX1_passTick_12 ?_
    refine v_isub (pc := 13) cx dX1_passTick_13 ?_
    refine v_putfield (pc := 14) cx fpX1_13 h0 ⟨rfl, rfl⟩ pf0 dX1_passTick_14 (fun E14 hE14 hF14 => ?_)
    replace h0 := hE14
    replace hFr := fun j hj => (hF14 j (by omega)).trans (hFr j hj)
    refine v_aload_n (pc := 17) cx rfl ga0 dX1_passTick_17 ?_
    refine v_dup (pc := 18) cx rfl dX1_passTick_18 ?_
    refine v_getfield (pc := 19) cx flX1_19 (by assumption) gf1 dX1_passTick_19 ?_
    refine v_iconst (pc := 22) cx dX1_passTick_22 ?_
    refine v_iadd (pc := 23) cx dX1_passTick_23 ?_
    refine v_putfield (pc := 24) cx fpX1_19 h0 ⟨rfl, rfl⟩ pf1 dX1_passTick_24 (fun E24 hE24 hF24 => ?_)
    replace h0 := hE24
    replace hFr := fun j hj => (hF24 j (by omega)).trans (hFr j hj)
    refine v_return (pc := 27) cx hI ?_ dX1_passTick_27
    rw [if_pos c4, if_pos c4]
    exact ⟨h0, hFr⟩
set_option maxRecDepth 100000 in
set_option maxHeartbeats 4000000 in
theorem c_Cl_copyFrom (lc : Launch) (G : Gc) (E : Wd) (nh : Nat) {o oo : Nat} {c d c' d' : Int} (h : E o = some (oCl c d)) (h' : E oo = some (oCl c' d')) (hd : o ≠ oo) : CV lc G 0 yX1_copyFrom cX1_copyFrom 2 [.ref (gb G + o), .ref (gb G + oo)] E nh 0 0 (fun E' => E' o = some (oCl c' d') ∧ Out E E' o (o + 1)) := by
  refine CV.mk (by decide +kernel) rfl (Nat.le_of_ble_eq_true rfl) ?_
  intro X hG hL cx hR hI hini
  subst hG; subst hL
  show V X E (nh, 0, 0) 0 [some (.ref (gb (fG X) + o)), some (.ref (gb (fG X) + oo))] []
  have h0 := h
  have g0 := h'
  have hFr : Out E E o (o + 1) := fun j hj => rfl
  refine v_aload_n (pc := 0) cx rfl ga0 dX1_copyFrom_0 ?_
  refine v_aload_n (pc := 1) cx rfl ga1 dX1_copyFrom_1 ?_
  refine v_getfield (pc := 2) cx flX1_13 (by assumption) gf0 dX1_copyFrom_2 ?_
  refine v_putfield (pc := 5) cx fpX1_13 h0 ⟨rfl, rfl⟩ pf0 dX1_copyFrom_5 (fun E5 hE5 hF5 => ?_)
  replace h0 := hE5
  replace g0 := (hF5 _ (by omega)).trans g0
  replace hFr := fun j hj => (hF5 j (by omega)).trans (hFr j hj)
  refine v_aload_n (pc := 8) cx rfl ga0 dX1_copyFrom_8 ?_
  refine v_aload_n (pc := 9) cx rfl ga1 dX1_copyFrom_9 ?_
  refine v_getfield (pc := 10) cx flX1_19 (by assumption) gf1 dX1_copyFrom_10 ?_
  refine v_putfield (pc := 13) cx fpX1_19 h0 ⟨rfl, rfl⟩ pf1 dX1_copyFrom_13 (fun E13 hE13 hF13 => ?_)
  replace h0 := hE13
  replace g0 := (hF13 _ (by omega)).trans g0
  replace hFr := fun j hj => (hF13 j (by omega)).trans (hFr j hj)
  refine v_return (pc := 16) cx hI ?_ dX1_copyFrom_16
  exact ⟨h0, hFr⟩
def rGe (G : Gc) (E : Wd) (o : Nat) (n : Int) (f s : Nat → Int) : Prop :=
  E o = some (.inr (3, [.ref (gb G + (o + 1)), .ref (gb G + (o + 2)), .int (iI n)])) ∧ E (o + 1) = some (AI G 3 f) ∧ E (o + 2) = some (AI G 3 s)
theorem rGe.out {G : Gc} {E E' : Wd} {o : Nat} {n : Int} {f s : Nat → Int} {x y : Nat} (h : rGe G E o n f s) (hE : Out E E' x y) (hxy : o + 3 ≤ x ∨ y ≤ o) : rGe G E' o n f s :=
  ⟨(hE _ (by omega)).trans h.1, (hE _ (by omega)).trans h.2.1, (hE _ (by omega)).trans h.2.2⟩
set_option maxRecDepth 100000 in
set_option maxHeartbeats 4000000 in
theorem c_Ge_copyFrom (lc : Launch) (G : Gc) (E : Wd) (nh : Nat) {o oo : Nat} {m m' : Int} {f s f' s' : Nat → Int} (h : rGe G E o m f s) (h' : rGe G E oo m' f' s') (hd : o + 3 ≤ oo ∨ oo + 3 ≤ o) : CV lc G 2 yX3_copyFrom cX3_copyFrom 2 [.ref (gb G + o), .ref (gb G + oo)] E nh 0 0 (fun E' => (∃ f2 s2 : Nat → Int, rGe G E' o m' f2 s2 ∧ ∀ j, j < 3 → f2 j = f' j ∧ s2 j = s' j) ∧ Out E E' o (o + 3)) := by
  refine CV.mk (by decide +kernel) rfl (Nat.le_of_ble_eq_true rfl) ?_
  intro X hG hL cx hR hI hini
  subst hG; subst hL
  show V X E (nh, 0, 0) 0 [some (.ref (gb (fG X) + o)), some (.ref (gb (fG X) + oo))] []
  obtain ⟨h0, hf, hs⟩ := id h
  obtain ⟨g0, gf, gs⟩ := id h'
  have hFr : Out E E o (o + 3) := fun j hj => rfl
  refine v_aload_n (pc := 0) cx rfl ga1 dX3_copyFrom_0 ?_
  refine v_getfield (pc := 1) cx flX3_9 (by assumption) gf0 dX3_copyFrom_1 ?_
  refine v_aload_n (pc := 4) cx rfl ga0 dX3_copyFrom_4 ?_
  refine v_getfield (pc := 5) cx flX3_9 (by assumption) gf0 dX3_copyFrom_5 ?_
  refine v_callSV (pc := 8) cx hR (c_copyRow _ _ _ _ (by omega) gf hf) mlX3_18 (by decide) rfl (Nat.le_of_ble_eq_true rfl) ⟨Nat.le_refl _, Nat.le_refl _⟩ dX3_copyFrom_8 (fun E1 hP => ?_)
  obtain ⟨hf, hF⟩ := hP
  replace h0 := (hF _ (by omega)).trans h0
  replace hs := (hF _ (by omega)).trans hs
  replace g0 := (hF _ (by omega)).trans g0
  replace gf := (hF _ (by omega)).trans gf
  replace gs := (hF _ (by omega)).trans gs
  replace hFr := fun j hj => (hF j (by omega)).trans (hFr j hj)
  refine v_aload_n (pc := 11) cx rfl ga1 dX3_copyFrom_11 ?_
  refine v_getfield (pc := 12) cx flX3_15 (by assumption) gf1 dX3_copyFrom_12 ?_
  refine v_aload_n (pc := 15) cx rfl ga0 dX3_copyFrom_15 ?_
  refine v_getfield (pc := 16) cx flX3_15 (by assumption) gf1 dX3_copyFrom_16 ?_
  refine v_callSV (pc := 19) cx hR (c_copyRow _ _ _ _ (by omega) gs hs) mlX3_18 (by decide) rfl (Nat.le_of_ble_eq_true rfl) ⟨Nat.le_refl _, Nat.le_refl _⟩ dX3_copyFrom_19 (fun E1 hP => ?_)
  obtain ⟨hs, hF⟩ := hP
  replace h0 := (hF _ (by omega)).trans h0
  replace hf := (hF _ (by omega)).trans hf
  replace g0 := (hF _ (by omega)).trans g0
  replace gf := (hF _ (by omega)).trans gf
  replace gs := (hF _ (by omega)).trans gs
  replace hFr := fun j hj => (hF j (by omega)).trans (hFr j hj)
  refine v_aload_n (pc := 22) cx rfl ga0 dX3_copyFrom_22 ?_
  refine v_aload_n (pc := 23) cx rfl ga1 dX3_copyFrom_23 ?_
  refine v_getfield (pc := 24) cx flX3_22 (by assumption) gf2 dX3_copyFrom_24 ?_
  refine v_putfield (pc := 27) cx fpX3_22 h0 ⟨rfl, rfl⟩ pf2 dX3_copyFrom_27 (fun E27 hE27 hF27 => ?_)
  replace h0 := hE27
  replace hf := (hF27 _ (by omega)).trans hf
  replace hs := (hF27 _ (by omega)).trans hs
  replace hFr := fun j hj => (hF27 j (by omega)).trans (hFr j hj)
  refine v_return (pc := 30) cx hI ?_ dX3_copyFrom_30
  exact ⟨⟨_, _, ⟨h0, hf, hs⟩, fun j hj => ⟨cpyI_in hj, cpyI_in hj⟩⟩, hFr⟩
/-! the drum's place: longs, as both sides reckon -/
def pL (c : Int64) (f : Nat → Int) : Nat → Int64
  | 0 => c
  | k + 1 => pL c f k * (iI (f k)).toInt64
def plc (cnt : Int) (f s : Nat → Int) (m : Nat) (teeth : Int) : Int :=
  (pL (iI cnt).toInt64 f m / pL 1 s m - pL (iI cnt).toInt64 f m / pL 1 s m / (iI teeth).toInt64 * (iI teeth).toInt64).toInt32.toInt
theorem iI_l {z : Int} (h : 0 ≤ z ∧ z < 2147483648) : (iI z).toInt64 = lN z.toNat := by
  obtain ⟨k, rfl⟩ := Int.eq_ofNat_of_zero_le h.1
  rw [iI_nI, nI_l (by omega)]
  rfl
theorem pL_ne {s : Nat → Int} : ∀ (m : Nat), m ≤ 3 → (∀ j, j < m → 8 ≤ s j ∧ s j ≤ 120) → ∃ k : Nat, pL 1 s m = lN k ∧ 1 ≤ k ∧ k ≤ 120 ^ m := by
  intro m
  induction m with
  | zero => intro _ _; exact ⟨1, rfl, Nat.le_refl _, Nat.le_refl _⟩
  | succ m ih =>
    intro hm hs
    obtain ⟨k, e, h1, h2⟩ := ih (by omega) (fun j hj => hs j (by omega))
    obtain ⟨h3, h4⟩ := hs m (by omega)
    refine ⟨k * (s m).toNat, ?_, ?_, ?_⟩
    · simp only [pL]
      rw [e, iI_l ⟨by omega, by omega⟩, lN_mul]
    · have : 1 ≤ (s m).toNat := by omega
      exact Nat.mul_le_mul h1 this
    · rw [Nat.pow_succ]
      exact Nat.mul_le_mul h2 (by omega)
theorem pL_nz {s : Nat → Int} {m : Nat} (hm : m ≤ 3) (hs : ∀ j, j < m → 8 ≤ s j ∧ s j ≤ 120) : ¬ pL 1 s m = 0 := by
  obtain ⟨k, e, h1, h2⟩ := pL_ne m hm hs
  have h3 : (120 : Nat) ^ m ≤ 120 ^ 3 := Nat.pow_le_pow_right (by decide) hm
  rw [e]
  intro h
  have : lN k = lN 0 := h
  rw [pk_lEQ (by omega) (by decide)] at this
  omega
theorem te_nz {z : Int} (h : 10 ≤ z ∧ z ≤ 1000) : ¬ (iI z).toInt64 = 0 := by
  rw [iI_l ⟨by omega, by omega⟩]
  intro h2
  have : lN z.toNat = lN 0 := h2
  rw [pk_lEQ (by omega) (by decide)] at this
  omega
theorem cmp_nz {x : Int64} (h : ¬ x = 0) : lg_cmp x 0 = iI 1 ∨ lg_cmp x 0 = iI (-1) := by
  unfold lg_cmp
  by_cases h1 : (0 : Int64) < x
  · left
    rw [if_pos h1]
    rfl
  · right
    rw [if_neg h1, if_neg h]
    rfl
set_option maxRecDepth 100000 in
set_option maxHeartbeats 4000000 in
theorem c_Ge_placeOf (lc : Launch) (G : Gc) (E : Wd) (nh : Nat) {o m : Nat} {cnt te : Int} {f s : Nat → Int} (h : rGe G E o (m : Int) f s) (hm : m ≤ 3) (hs0 : ∀ j, j < m → 8 ≤ s j ∧ s j ≤ 120) (ht : 10 ≤ te ∧ te ≤ 1000) : CI lc G 0 yX3_placeOf cX3_placeOf 8 .int [.ref (gb G + o), .int (iI cnt), .int (iI te)] E nh 0 0 (fun v E' => v = plc cnt f s m te ∧ E' = E) := by
  refine CI.mk (by decide +kernel) rfl (Nat.le_of_ble_eq_true rfl) ?_
  intro X hG hL cx hR hI
  subst hG; subst hL
  show V X E (nh, 0, 0) 0 [some (.ref (gb (fG X) + o)), some (.int (iI cnt)), some (.int (iI te)), none, none, none, none, none] []
  obtain ⟨h0, hf, hs⟩ := h
  have hz := pL_nz hm hs0
  have hz2 := te_nz ht
  have fin : V X E (nh, 0, 0) 55 [some (.ref (gb (fG X) + o)), some (.int (iI cnt)), some (.int (iI te)), some (.long (pL (iI cnt).toInt64 f m)), none, some (.long (pL 1 s m)), none, some (.int (iI (m : Int)))] [] := by
    refine v_iload_n (pc := 55) cx rfl ga2 dX3_placeOf_55 ?_
    refine v_if_ne (pc := 56) cx 61 dX3_placeOf_56 rfl (by omega) (fun c56 => ?_) (fun c56 => ?_)
    · refine v_lload_n (pc := 61) cx rfl ga3 dX3_placeOf_61 ?_
      refine v_lload (pc := 62) cx ga5 dX3_placeOf_62 ?_
      refine v_ldiv (pc := 64) cx (by assumption) dX3_placeOf_64 ?_
      refine v_iload_n (pc := 65) cx rfl ga2 dX3_placeOf_65 ?_
      refine v_i2l (pc := 66) cx dX3_placeOf_66 ?_
      refine v_lrem (pc := 67) cx (by assumption) dX3_placeOf_67 ?_
      refine v_l2i (pc := 68) cx dX3_placeOf_68 ?_
      rw [iI_of (Int64.toInt32 _)]
      refine v_ireturn (pc := 69) cx hI rfl ?_ dX3_placeOf_69
      exact ⟨rfl, rfl⟩
    · omega
  have loop : ∀ (d k : Nat), k ≤ m → m - k < d → V X E (nh, 0, 0) 9 [some (.ref (gb (fG X) + o)), some (.int (iI cnt)), some (.int (iI te)), some (.long (pL (iI cnt).toInt64 f k)), none, some (.long (pL 1 s k)), none, some (.int (iI (k : Int)))] [] := by
    intro d
    induction d with
    | zero => intro k hk hd; omega
    | succ d ih =>
      intro k hk hd
      refine v_iload (pc := 9) cx ga7 dX3_placeOf_9 ?_
      refine v_aload_n (pc := 11) cx rfl ga0 dX3_placeOf_11 ?_
      refine v_getfield (pc := 12) cx flX3_22 (by assumption) gf2 dX3_placeOf_12 ?_
      refine v_icmp_ge (pc := 15) cx 48 dX3_placeOf_15 rfl (by omega) (fun c15 => ?_) (fun c15 => ?_)
      · have e : k = m := by omega
        subst e
        refine v_lload (pc := 48) cx ga5 dX3_placeOf_48 ?_
        refine v_lconst (pc := 50) (v := 0) cx rfl dX3_placeOf_50 ?_
        refine v_lcmp (pc := 51) cx dX3_placeOf_51 ?_
        rcases cmp_nz hz with e | e
        · rw [e]
          refine v_if_eq (pc := 52) cx 59 dX3_placeOf_52 rfl (by omega) (fun c52 => ?_) (fun c52 => ?_)
          · omega
          · exact fin
        · rw [e]
          refine v_if_eq (pc := 52) cx 59 dX3_placeOf_52 rfl (by omega) (fun c52 => ?_) (fun c52 => ?_)
          · omega
          · exact fin
      · refine v_lload_n (pc := 18) cx rfl ga3 dX3_placeOf_18 ?_
        refine v_aload_n (pc := 19) cx rfl ga0 dX3_placeOf_19 ?_
        refine v_getfield (pc := 20) cx flX3_9 (by assumption) gf0 dX3_placeOf_20 ?_
        refine v_iload (pc := 23) cx ga7 dX3_placeOf_23 ?_
        refine v_iaload (pc := 25) cx (k) (by assumption) (by omega) dX3_placeOf_25 ?_
        refine v_i2l (pc := 26) cx dX3_placeOf_26 ?_
        refine v_lmul (pc := 27) cx dX3_placeOf_27 ?_
        refine v_lstore_n (pc := 28) cx rfl (sl3 rfl) dX3_placeOf_28 ?_
        refine v_lload (pc := 29) cx ga5 dX3_placeOf_29 ?_
        refine v_aload_n (pc := 31) cx rfl ga0 dX3_placeOf_31 ?_
        refine v_getfield (pc := 32) cx flX3_15 (by assumption) gf1 dX3_placeOf_32 ?_
        refine v_iload (pc := 35) cx ga7 dX3_placeOf_35 ?_
        refine v_iaload (pc := 37) cx (k) (by assumption) (by omega) dX3_placeOf_37 ?_
        refine v_i2l (pc := 38) cx dX3_placeOf_38 ?_
        refine v_lmul (pc := 39) cx dX3_placeOf_39 ?_
        refine v_lstore (pc := 40) cx (sl5 rfl) dX3_placeOf_40 ?_
        refine v_iinc (pc := 42) cx ga7 (sa7 rfl) dX3_placeOf_42 ?_
        refine v_goto (pc := 45) cx 9 dX3_placeOf_45 rfl ?_
        exact ih (k + 1) (by omega) (by omega)
  refine v_iload_n (pc := 0) cx rfl ga1 dX3_placeOf_0 ?_
  refine v_i2l (pc := 1) cx dX3_placeOf_1 ?_
  refine v_lstore_n (pc := 2) cx rfl (sl3 rfl) dX3_placeOf_2 ?_
  refine v_lconst (pc := 3) (v := 1) cx rfl dX3_placeOf_3 ?_
  refine v_lstore (pc := 4) cx (sl5 rfl) dX3_placeOf_4 ?_
  refine v_iconst (pc := 6) cx dX3_placeOf_6 ?_
  refine v_istore (pc := 7) cx (sa7 rfl) dX3_placeOf_7 ?_
  exact loop (m + 1) 0 (Nat.zero_le _) (by omega)
end
section
/-! the marks -/
def rMk (G : Gc) (E : Wd) (o : Nat) (n : Int) (t p v : Nat → Int) : Prop :=
  E o = some (.inr (5, [.ref (gb G + (o + 1)), .ref (gb G + (o + 2)), .ref (gb G + (o + 3)), .int (iI n)])) ∧ E (o + 1) = some (AI G 60 t) ∧ E (o + 2) = some (AI G 60 p) ∧ E (o + 3) = some (AI G 60 v)
theorem rMk.out {G : Gc} {E E' : Wd} {o : Nat} {n : Int} {b l r : Nat → Int} {x y : Nat} (h : rMk G E o n b l r) (hE : Out E E' x y) (hxy : o + 4 ≤ x ∨ y ≤ o) : rMk G E' o n b l r :=
  ⟨(hE _ (by omega)).trans h.1, (hE _ (by omega)).trans h.2.1, (hE _ (by omega)).trans h.2.2.1, (hE _ (by omega)).trans h.2.2.2⟩
def addMk (L : List (Int × Int × Int)) (x : Int × Int × Int) : List (Int × Int × Int) := (if L.length = 60 then L.tail else L) ++ [x]
theorem lst_len {b l r : Nat → Int} {m : Nat} : (lst b l r m).length = m := by simp [lst]
theorem lst_tail {b l r : Nat → Int} {m : Nat} : (lst b l r (m + 1)).tail = lst (fun j => b (j + 1)) (fun j => l (j + 1)) (fun j => r (j + 1)) m := by
  simp [lst, List.range_succ_eq_map, List.map_map, Function.comp_def]
def beg (t : Nat → Int) (gap : Int) (i : Nat) : Prop := i = 0 ∨ gap < t i - t (i - 1)
def cnt (t : Nat → Int) (gap : Int) : Nat → Nat
  | 0 => 0
  | k + 1 => cnt t gap k + if k = 0 ∨ gap < t k - t (k - 1) then 1 else 0
def lossTo (t : Nat → Int) (c : Int) (f : Nat) : Nat → Int
  | 0 => 0
  | d + 1 => lossTo t c f d + c / (t (f + 1 + d) - t (f + d))
def mxG (t : Nat → Int) : Nat → Int
  | 0 => 0
  | k + 1 => if k = 0 then 0 else max (mxG t k) (t k - t (k - 1))
/-- marks' ticks: ascending, within the run -/
def okT (t : Nat → Int) (m : Nat) : Prop := (∀ i, i < m → 0 ≤ t i ∧ t i ≤ 5000) ∧ ∀ i j, i < j → j < m → t i < t j
def isPk (t : Nat → Int) (f e : Nat) (v : Int) : Prop := (∃ i j : Nat, f ≤ i ∧ i ≤ j ∧ j < e ∧ t j - t i < 30 ∧ v = (j : Int) - i + 1) ∧ ∀ i j : Nat, f ≤ i → i ≤ j → j < e → t j - t i < 30 → (j : Int) - i + 1 ≤ v
theorem cnt_le (t : Nat → Int) (gap : Int) : ∀ k, cnt t gap k ≤ k := by
  intro k
  induction k with
  | zero => exact Nat.le_refl _
  | succ k ih => simp only [cnt]; split <;> omega
theorem mxG_bd {t : Nat → Int} {m : Nat} (h : okT t m) : ∀ k, k ≤ m → 0 ≤ mxG t k ∧ mxG t k ≤ 5000 := by
  intro k
  induction k with
  | zero => intro _; simp [mxG]
  | succ k ih =>
    intro hk
    have h1 := ih (by omega)
    simp only [mxG]
    split
    · exact ⟨Int.le_refl _, by decide⟩
    · have h2 := h.1 k (by omega)
      have h3 := h.1 (k - 1) (by omega)
      have h4 := h.2 (k - 1) k (by omega) (by omega)
      omega
theorem lossTo_bd {t : Nat → Int} {m f : Nat} {c : Int} (h : okT t m) (hc : 0 ≤ c ∧ c ≤ 10000) : ∀ d, f + d < m → 0 ≤ lossTo t c f d ∧ lossTo t c f d ≤ 10000 * d := by
  intro d
  induction d with
  | zero => intro _; exact ⟨Int.le_refl _, by simp [lossTo]⟩
  | succ d ih =>
    intro hd
    have h1 := ih (by omega)
    have h4 := h.2 (f + d) (f + 1 + d) (by omega) (by omega)
    simp only [lossTo]
    have h5 : 0 ≤ c / (t (f + 1 + d) - t (f + d)) := Int.ediv_nonneg hc.1 (by omega)
    have h6 : c / (t (f + 1 + d) - t (f + d)) ≤ c := Int.ediv_le_self _ hc.1
    omega
set_option maxRecDepth 100000 in
set_option maxHeartbeats 4000000 in
theorem c_Mk_has (lc : Launch) (G : Gc) (E : Wd) (nh : Nat) {o : Nat} {m k : Int} {t p v : Nat → Int} (h : rMk G E o m t p v) (hm : 0 ≤ m ∧ m ≤ 60) (hk : -2147483648 ≤ k ∧ k < 2147483648) : CI lc G 0 yX5_has cX5_has 2 .boolean [.ref (gb G + o), .int (iI k)] E nh 0 0 (fun v E' => ((v = 1 ∧ 0 ≤ k ∧ k < m) ∨ (v = 0 ∧ (k < 0 ∨ m ≤ k))) ∧ E' = E) := by
  refine CI.mk (by decide +kernel) rfl (Nat.le_of_ble_eq_true rfl) ?_
  intro X hG hL cx hR hI
  subst hG; subst hL
  show V X E (nh, 0, 0) 0 [some (.ref (gb (fG X) + o)), some (.int (iI k))] []
  obtain ⟨h0, h1, h2, h3⟩ := h
  refine v_iload_n (pc := 0) cx rfl ga1 dX5_has_0 ?_
  refine v_if_lt (pc := 1) cx 16 dX5_has_1 rfl (by omega) (fun c1 => ?_) (fun c1 => ?_)
  · refine v_iconst (pc := 16) cx dX5_has_16 ?_
    refine v_ireturn (pc := 17) cx hI rfl ?_ dX5_has_17
    exact ⟨Or.inr ⟨rfl, Or.inl c1⟩, rfl⟩
  · refine v_iload_n (pc := 4) cx rfl ga1 dX5_has_4 ?_
    refine v_aload_n (pc := 5) cx rfl ga0 dX5_has_5 ?_
    refine v_getfield (pc := 6) cx flX5_25 (by assumption) gf3 dX5_has_6 ?_
    refine v_icmp_ge (pc := 9) cx 16 dX5_has_9 rfl (by omega) (fun c9 => ?_) (fun c9 => ?_)
    · refine v_iconst (pc := 16) cx dX5_has_16 ?_
      refine v_ireturn (pc := 17) cx hI rfl ?_ dX5_has_17
      exact ⟨Or.inr ⟨rfl, Or.inr c9⟩, rfl⟩
    · refine v_iconst (pc := 12) cx dX5_has_12 ?_
      refine v_goto (pc := 13) cx 17 dX5_has_13 rfl ?_
      refine v_ireturn (pc := 17) cx hI rfl ?_ dX5_has_17
      exact ⟨Or.inl ⟨rfl, c1, c9⟩, rfl⟩
set_option maxRecDepth 100000 in
set_option maxHeartbeats 4000000 in
theorem c_Mk_removeOldest (lc : Launch) (G : Gc) (E : Wd) (nh : Nat) {o : Nat} {m : Int} {t p v : Nat → Int} (h : rMk G E o m t p v) : CV lc G 1 yX5_removeOldest cX5_removeOldest 1 [.ref (gb G + o)] E nh 0 0 (fun E' => rMk G E' o 59 (cpyI t t 1 0 59) (cpyI p p 1 0 59) (cpyI v v 1 0 59) ∧ Out E E' o (o + 4)) := by
  refine CV.mk (by decide +kernel) rfl (Nat.le_of_ble_eq_true rfl) ?_
  intro X hG hL cx hR hI hini
  subst hG; subst hL
  show V X E (nh, 0, 0) 0 [some (.ref (gb (fG X) + o))] []
  obtain ⟨h0, ht, hp, hv⟩ := h
  have hFr : Out E E o (o + 4) := fun j hj => rfl
  refine v_aload_n (pc := 0) cx rfl ga0 dX5_removeOldest_0 ?_
  refine v_bipush (pc := 1) cx (by decide) dX5_removeOldest_1 ?_
  refine v_putfield (pc := 3) cx fpX5_25 h0 ⟨rfl, rfl⟩ pf3 dX5_removeOldest_3 (fun E3 hE3 hF3 => ?_)
  replace h0 := hE3
  replace ht := (hF3 _ (by omega)).trans ht
  replace hp := (hF3 _ (by omega)).trans hp
  replace hv := (hF3 _ (by omega)).trans hv
  replace hFr := fun j hj => (hF3 j (by omega)).trans (hFr j hj)
  refine v_aload_n (pc := 6) cx rfl ga0 dX5_removeOldest_6 ?_
  refine v_getfield (pc := 7) cx flX5_9 (by assumption) gf0 dX5_removeOldest_7 ?_
  refine v_iconst (pc := 10) cx dX5_removeOldest_10 ?_
  refine v_aload_n (pc := 11) cx rfl ga0 dX5_removeOldest_11 ?_
  refine v_getfield (pc := 12) cx flX5_9 (by assumption) gf0 dX5_removeOldest_12 ?_
  refine v_iconst (pc := 15) cx dX5_removeOldest_15 ?_
  refine v_aload_n (pc := 16) cx rfl ga0 dX5_removeOldest_16 ?_
  refine v_getfield (pc := 17) cx flX5_25 (by assumption) gf3 dX5_removeOldest_17 ?_
  refine v_copy (pc := 20) cx 1 0 59 hR (by decide) acX5_32 ac_n ac_s ac_i ht ht (by omega) (Nat.le_of_ble_eq_true rfl) dX5_removeOldest_20 (fun E1 hE1 hF1 => ?_)
  replace h0 := (hF1 _ (by omega)).trans h0
  replace hp := (hF1 _ (by omega)).trans hp
  replace hv := (hF1 _ (by omega)).trans hv
  replace hFr := fun j hj => (hF1 j (by omega)).trans (hFr j hj)
  replace ht := hE1
  refine v_aload_n (pc := 23) cx rfl ga0 dX5_removeOldest_23 ?_
  refine v_getfield (pc := 24) cx flX5_15 (by assumption) gf1 dX5_removeOldest_24 ?_
  refine v_iconst (pc := 27) cx dX5_removeOldest_27 ?_
  refine v_aload_n (pc := 28) cx rfl ga0 dX5_removeOldest_28 ?_
  refine v_getfield (pc := 29) cx flX5_15 (by assumption) gf1 dX5_removeOldest_29 ?_
  refine v_iconst (pc := 32) cx dX5_removeOldest_32 ?_
  refine v_aload_n (pc := 33) cx rfl ga0 dX5_removeOldest_33 ?_
  refine v_getfield (pc := 34) cx flX5_25 (by assumption) gf3 dX5_removeOldest_34 ?_
  refine v_copy (pc := 37) cx 1 0 59 hR (by decide) acX5_32 ac_n ac_s ac_i hp hp (by omega) (Nat.le_of_ble_eq_true rfl) dX5_removeOldest_37 (fun E1 hE1 hF1 => ?_)
  replace h0 := (hF1 _ (by omega)).trans h0
  replace ht := (hF1 _ (by omega)).trans ht
  replace hv := (hF1 _ (by omega)).trans hv
  replace hFr := fun j hj => (hF1 j (by omega)).trans (hFr j hj)
  replace hp := hE1
  refine v_aload_n (pc := 40) cx rfl ga0 dX5_removeOldest_40 ?_
  refine v_getfield (pc := 41) cx flX5_18 (by assumption) gf2 dX5_removeOldest_41 ?_
  refine v_iconst (pc := 44) cx dX5_removeOldest_44 ?_
  refine v_aload_n (pc := 45) cx rfl ga0 dX5_removeOldest_45 ?_
  refine v_getfield (pc := 46) cx flX5_18 (by assumption) gf2 dX5_removeOldest_46 ?_
  refine v_iconst (pc := 49) cx dX5_removeOldest_49 ?_
  refine v_aload_n (pc := 50) cx rfl ga0 dX5_removeOldest_50 ?_
  refine v_getfield (pc := 51) cx flX5_25 (by assumption) gf3 dX5_removeOldest_51 ?_
  refine v_copy (pc := 54) cx 1 0 59 hR (by decide) acX5_32 ac_n ac_s ac_i hv hv (by omega) (Nat.le_of_ble_eq_true rfl) dX5_removeOldest_54 (fun E1 hE1 hF1 => ?_)
  replace h0 := (hF1 _ (by omega)).trans h0
  replace ht := (hF1 _ (by omega)).trans ht
  replace hp := (hF1 _ (by omega)).trans hp
  replace hFr := fun j hj => (hF1 j (by omega)).trans (hFr j hj)
  replace hv := hE1
  refine v_return (pc := 57) cx hI ?_ dX5_removeOldest_57
  exact ⟨⟨h0, ht, hp, hv⟩, hFr⟩
theorem cpyI_sh {f : Nat → Int} {j : Nat} (h : j < 59) : cpyI f f 1 0 59 j = f (j + 1) := by
  unfold cpyI
  rw [if_pos ⟨Nat.zero_le _, by omega⟩]
  congr 1
  omega
set_option maxRecDepth 100000 in
set_option maxHeartbeats 4000000 in
theorem c_Mk_append (lc : Launch) (G : Gc) (E : Wd) (nh : Nat) {o m : Nat} {x y w : Int} {t p v : Nat → Int} (h : rMk G E o (m : Int) t p v) (hm : m ≤ 60) : CV lc G 2 yX5_append cX5_append 4 [.ref (gb G + o), .int (iI x), .int (iI y), .int (iI w)] E nh 0 0 (fun E' => (∃ (m' : Nat) (t' p' v' : Nat → Int), rMk G E' o m' t' p' v' ∧ lst t' p' v' m' = addMk (lst t p v m) (x, y, w) ∧ m' ≤ 60) ∧ Out E E' o (o + 4)) := by
  refine CV.mk (by decide +kernel) rfl (Nat.le_of_ble_eq_true rfl) ?_
  intro X hG hL cx hR hI hini
  subst hG; subst hL
  show V X E (nh, 0, 0) 0 [some (.ref (gb (fG X) + o)), some (.int (iI x)), some (.int (iI y)), some (.int (iI w))] []
  have fin : ∀ (k : Nat) (t' p' v' : Nat → Int) (E' : Wd), k < 60 → rMk (fG X) E' o k t' p' v' → lst t' p' v' k = (if (lst t p v m).length = 60 then (lst t p v m).tail else lst t p v m) → Out E E' o (o + 4) → V X E' (nh, 0, 0) 13 [some (.ref (gb (fG X) + o)), some (.int (iI x)), some (.int (iI y)), some (.int (iI w))] [] := by
    intro k t' p' v' E' hk h hls hFr
    obtain ⟨h0, ht, hp, hv⟩ := h
    refine v_aload_n (pc := 13) cx rfl ga0 dX5_append_13 ?_
    refine v_getfield (pc := 14) cx flX5_9 (by assumption) gf0 dX5_append_14 ?_
    refine v_aload_n (pc := 17) cx rfl ga0 dX5_append_17 ?_
    refine v_getfield (pc := 18) cx flX5_25 (by assumption) gf3 dX5_append_18 ?_
    refine v_iload_n (pc := 21) cx rfl ga1 dX5_append_21 ?_
    refine v_iastore (pc := 22) cx (k) ht (by omega) dX5_append_22 (fun E22 hE22 hF22 => ?_)
    replace h0 := (hF22 _ (by omega)).trans h0
    replace ht := hE22
    replace hp := (hF22 _ (by omega)).trans hp
    replace hv := (hF22 _ (by omega)).trans hv
    replace hFr := fun j hj => (hF22 j (by omega)).trans (hFr j hj)
    refine v_aload_n (pc := 23) cx rfl ga0 dX5_append_23 ?_
    refine v_getfield (pc := 24) cx flX5_15 (by assumption) gf1 dX5_append_24 ?_
    refine v_aload_n (pc := 27) cx rfl ga0 dX5_append_27 ?_
    refine v_getfield (pc := 28) cx flX5_25 (by assumption) gf3 dX5_append_28 ?_
    refine v_iload_n (pc := 31) cx rfl ga2 dX5_append_31 ?_
    refine v_iastore (pc := 32) cx (k) hp (by omega) dX5_append_32 (fun E32 hE32 hF32 => ?_)
    replace h0 := (hF32 _ (by omega)).trans h0
    replace ht := (hF32 _ (by omega)).trans ht
    replace hp := hE32
    replace hv := (hF32 _ (by omega)).trans hv
    replace hFr := fun j hj => (hF32 j (by omega)).trans (hFr j hj)
    refine v_aload_n (pc := 33) cx rfl ga0 dX5_append_33 ?_
    refine v_getfield (pc := 34) cx flX5_18 (by assumption) gf2 dX5_append_34 ?_
    refine v_aload_n (pc := 37) cx rfl ga0 dX5_append_37 ?_
    refine v_getfield (pc := 38) cx flX5_25 (by assumption) gf3 dX5_append_38 ?_
    refine v_iload_n (pc := 41) cx rfl ga3 dX5_append_41 ?_
    refine v_iastore (pc := 42) cx (k) hv (by omega) dX5_append_42 (fun E42 hE42 hF42 => ?_)
    replace h0 := (hF42 _ (by omega)).trans h0
    replace ht := (hF42 _ (by omega)).trans ht
    replace hp := (hF42 _ (by omega)).trans hp
    replace hv := hE42
    replace hFr := fun j hj => (hF42 j (by omega)).trans (hFr j hj)
    refine v_aload_n (pc := 43) cx rfl ga0 dX5_append_43 ?_
    refine v_dup (pc := 44) cx rfl dX5_append_44 ?_
    refine v_getfield (pc := 45) cx flX5_25 (by assumption) gf3 dX5_append_45 ?_
    refine v_iconst (pc := 48) cx dX5_append_48 ?_
    refine v_iadd (pc := 49) cx dX5_append_49 ?_
    refine v_putfield (pc := 50) cx fpX5_25 h0 ⟨rfl, rfl⟩ pf3 dX5_append_50 (fun E50 hE50 hF50 => ?_)
    replace h0 := hE50
    replace ht := (hF50 _ (by omega)).trans ht
    replace hp := (hF50 _ (by omega)).trans hp
    replace hv := (hF50 _ (by omega)).trans hv
    replace hFr := fun j hj => (hF50 j (by omega)).trans (hFr j hj)
    refine v_return (pc := 53) cx hI ?_ dX5_append_53
    refine ⟨⟨k + 1, _, _, _, ⟨h0, ht, hp, hv⟩, ?_, by omega⟩, hFr⟩
    rw [lst_push, hls]
    rfl
  obtain ⟨h0, ht, hp, hv⟩ := id h
  refine v_aload_n (pc := 0) cx rfl ga0 dX5_append_0 ?_
  refine v_getfield (pc := 1) cx flX5_25 (by assumption) gf3 dX5_append_1 ?_
  refine v_bipush (pc := 4) cx (by decide) dX5_append_4 ?_
  refine v_icmp_lt (pc := 6) cx 13 dX5_append_6 rfl (by omega) (fun c6 => ?_) (fun c6 => ?_)
  · refine fin m t p v E (by omega) h ?_ (fun _ _ => rfl)
    rw [lst_len, if_neg (by omega)]
  · refine v_aload_n (pc := 9) cx rfl ga0 dX5_append_9 ?_
    refine v_callVV (pc := 10) cx hR (c_Mk_removeOldest _ _ _ _ h) mlX5_29 (by decide) (by assumption) rfl rfl rfl (Nat.le_of_ble_eq_true rfl) ⟨Nat.le_refl _, Nat.le_refl _⟩ dX5_append_10 (fun E2 hP => ?_)
    obtain ⟨h2, hF2⟩ := hP
    refine fin 59 _ _ _ E2 (by omega) h2 ?_ hF2
    have e : m = 60 := by omega
    subst e
    rw [lst_len, if_pos rfl, lst_tail]
    exact lst_ext (fun j hj => ⟨cpyI_sh hj, cpyI_sh hj, cpyI_sh hj⟩)
set_option maxRecDepth 100000 in
set_option maxHeartbeats 4000000 in
theorem c_Mk_ticksBetween (lc : Launch) (G : Gc) (E : Wd) (nh : Nat) {o m i j : Nat} {t p v : Nat → Int} (h : rMk G E o (m : Int) t p v) (hm : m ≤ 60) (hi : i < m) (hj : j < m) : CI lc G 1 yX5_ticksBetween cX5_ticksBetween 3 .int [.ref (gb G + o), .int (iI (i : Int)), .int (iI (j : Int))] E nh 0 0 (fun v E' => v = t j - t i ∧ E' = E) := by
  refine CI.mk (by decide +kernel) rfl (Nat.le_of_ble_eq_true rfl) ?_
  intro X hG hL cx hR hI
  subst hG; subst hL
  show V X E (nh, 0, 0) 0 [some (.ref (gb (fG X) + o)), some (.int (iI (i : Int))), some (.int (iI (j : Int)))] []
  obtain ⟨h0, ht, hp, hv⟩ := id h
  refine v_aload_n (pc := 0) cx rfl ga0 dX5_ticksBetween_0 ?_
  refine v_iload_n (pc := 1) cx rfl ga1 dX5_ticksBetween_1 ?_
  refine v_callVI (pc := 2) cx hR (c_Mk_has _ _ _ _ h (by omega) (by omega)) mlX5_38 (by decide) (by assumption) rfl rfl rfl (Nat.le_of_ble_eq_true rfl) ⟨Nat.le_refl _, Nat.le_refl _⟩ dX5_ticksBetween_2 (fun v2 E2 hP => ?_)
  obtain ⟨hv2, rfl⟩ := hP
  refine v_if_eq (pc := 5) cx 32 dX5_ticksBetween_5 rfl (by omega) (fun c5 => ?_) (fun c5 => ?_)
  · omega
  · refine v_aload_n (pc := 8) cx rfl ga0 dX5_ticksBetween_8 ?_
    refine v_iload_n (pc := 9) cx rfl ga2 dX5_ticksBetween_9 ?_
    refine v_callVI (pc := 10) cx hR (c_Mk_has _ _ _ _ h (by omega) (by omega)) mlX5_38 (by decide) (by assumption) rfl rfl rfl (Nat.le_of_ble_eq_true rfl) ⟨Nat.le_refl _, Nat.le_refl _⟩ dX5_ticksBetween_10 (fun v3 E3 hP => ?_)
    obtain ⟨hv3, rfl⟩ := hP
    refine v_if_eq (pc := 13) cx 32 dX5_ticksBetween_13 rfl (by omega) (fun c13 => ?_) (fun c13 => ?_)
    · omega
    · refine v_aload_n (pc := 16) cx rfl ga0 dX5_ticksBetween_16 ?_
      refine v_getfield (pc := 17) cx flX5_9 (by assumption) gf0 dX5_ticksBetween_17 ?_
      refine v_iload_n (pc := 20) cx rfl ga2 dX5_ticksBetween_20 ?_
      refine v_iaload (pc := 21) cx (j) (by assumption) (by omega) dX5_ticksBetween_21 ?_
      refine v_aload_n (pc := 22) cx rfl ga0 dX5_ticksBetween_22 ?_
      refine v_getfield (pc := 23) cx flX5_9 (by assumption) gf0 dX5_ticksBetween_23 ?_
      refine v_iload_n (pc := 26) cx rfl ga1 dX5_ticksBetween_26 ?_
      refine v_iaload (pc := 27) cx (i) (by assumption) (by omega) dX5_ticksBetween_27 ?_
      refine v_isub (pc := 28) cx dX5_ticksBetween_28 ?_
      refine v_goto (pc := 29) cx 33 dX5_ticksBetween_29 rfl ?_
      refine v_ireturn (pc := 33) cx hI rfl ?_ dX5_ticksBetween_33
      exact ⟨rfl, rfl⟩
set_option maxRecDepth 100000 in
set_option maxHeartbeats 4000000 in
theorem c_Mk_widestGap (lc : Launch) (G : Gc) (E : Wd) (nh : Nat) {o m : Nat} {t p v : Nat → Int} (h : rMk G E o (m : Int) t p v) (hm : m ≤ 60) (hT : okT t m) : CI lc G 2 yX5_widestGap cX5_widestGap 3 .int [.ref (gb G + o)] E nh 0 0 (fun v E' => v = mxG t m ∧ E' = E) := by
  refine CI.mk (by decide +kernel) rfl (Nat.le_of_ble_eq_true rfl) ?_
  intro X hG hL cx hR hI
  subst hG; subst hL
  show V X E (nh, 0, 0) 0 [some (.ref (gb (fG X) + o)), none, none] []
  obtain ⟨h0, ht, hp, hv⟩ := id h
  have loop : ∀ (d i : Nat), 1 ≤ i → (i ≤ m ∨ (m = 0 ∧ i = 1)) → m + 1 - i < d → V X E (nh, 0, 0) 4 [some (.ref (gb (fG X) + o)), some (.int (iI (mxG t i))), some (.int (iI (i : Int)))] [] := by
    intro d
    induction d with
    | zero => intro k hk hd; omega
    | succ d ih =>
      intro i hi1 hi2 hd
      refine v_iload_n (pc := 4) cx rfl ga2 dX5_widestGap_4 ?_
      refine v_aload_n (pc := 5) cx rfl ga0 dX5_widestGap_5 ?_
      refine v_getfield (pc := 6) cx flX5_25 (by assumption) gf3 dX5_widestGap_6 ?_
      refine v_icmp_ge (pc := 9) cx 31 dX5_widestGap_9 rfl (by omega) (fun c9 => ?_) (fun c9 => ?_)
      · refine v_iload_n (pc := 31) cx rfl ga1 dX5_widestGap_31 ?_
        refine v_ireturn (pc := 32) cx hI rfl ?_ dX5_widestGap_32
        refine ⟨?_, rfl⟩
        rcases hi2 with h5 | ⟨h5, h6⟩
        · rw [show i = m by omega]
        · rw [h5, h6]
          rfl
      · refine v_iload_n (pc := 12) cx rfl ga1 dX5_widestGap_12 ?_
        refine v_aload_n (pc := 13) cx rfl ga0 dX5_widestGap_13 ?_
        refine v_iload_n (pc := 14) cx rfl ga2 dX5_widestGap_14 ?_
        refine v_iconst (pc := 15) cx dX5_widestGap_15 ?_
        refine v_isub (pc := 16) cx dX5_widestGap_16 ?_
        refine v_iload_n (pc := 17) cx rfl ga2 dX5_widestGap_17 ?_
        rw [show ((i : Int) - 1) = ((i - 1 : Nat) : Int) by omega]
        refine v_callVI (pc := 18) cx hR (c_Mk_ticksBetween _ _ _ _ h hm (by omega) (by omega)) mlX5_42 (by decide) (by assumption) rfl rfl rfl (Nat.le_of_ble_eq_true rfl) ⟨Nat.le_refl _, Nat.le_refl _⟩ dX5_widestGap_18 (fun v2 E2 hP => ?_)
        obtain ⟨rfl, rfl⟩ := hP
        have g1 := mxG_bd hT i (by omega)
        have g2 := hT.1 i (by omega)
        have g3 := hT.1 (i - 1) (by omega)
        refine v_callSI (pc := 21) cx hR (c_max _ _ _ _ (by omega)) mlX5_46 (by decide) rfl (Nat.le_of_ble_eq_true rfl) ⟨Nat.le_refl _, Nat.le_refl _⟩ dX5_widestGap_21 (fun v3 E3 hP => ?_)
        obtain ⟨rfl, rfl⟩ := hP
        refine v_istore_n (pc := 24) cx rfl (sa1 rfl) dX5_widestGap_24 ?_
        refine v_iinc (pc := 25) cx ga2 (sa2 rfl) dX5_widestGap_25 ?_
        refine v_goto (pc := 28) cx 4 dX5_widestGap_28 rfl ?_
        have e : mxG t (i + 1) = max (mxG t i) (t i - t (i - 1)) := by simp only [mxG]; rw [if_neg (by omega)]
        rw [← e]
        exact ih (i + 1) (by omega) (by omega) (by omega)
  refine v_iconst (pc := 0) cx dX5_widestGap_0 ?_
  refine v_istore_n (pc := 1) cx rfl (sa1 rfl) dX5_widestGap_1 ?_
  refine v_iconst (pc := 2) cx dX5_widestGap_2 ?_
  refine v_istore_n (pc := 3) cx rfl (sa2 rfl) dX5_widestGap_3 ?_
  exact loop (m + 2) 1 (by omega) (by omega) (by omega)
set_option maxRecDepth 100000 in
set_option maxHeartbeats 4000000 in
theorem c_Mk_beginsStorm (lc : Launch) (G : Gc) (E : Wd) (nh : Nat) {o m i : Nat} {gap : Int} {t p v : Nat → Int} (h : rMk G E o (m : Int) t p v) (hm : m ≤ 60) (hT : okT t m) (hi : i < m) (hg : 1 ≤ gap ∧ gap ≤ 1000) : CI lc G 2 yX5_beginsStorm cX5_beginsStorm 3 .boolean [.ref (gb G + o), .int (iI (i : Int)), .int (iI gap)] E nh 0 0 (fun v E' => ((v = 1 ∧ beg t gap i) ∨ (v = 0 ∧ ¬ beg t gap i)) ∧ E' = E) := by
  refine CI.mk (by decide +kernel) rfl (Nat.le_of_ble_eq_true rfl) ?_
  intro X hG hL cx hR hI
  subst hG; subst hL
  show V X E (nh, 0, 0) 0 [some (.ref (gb (fG X) + o)), some (.int (iI (i : Int))), some (.int (iI gap))] []
  obtain ⟨h0, ht, hp, hv⟩ := id h
  refine v_iload_n (pc := 0) cx rfl ga1 dX5_beginsStorm_0 ?_
  refine v_if_eq (pc := 1) cx 16 dX5_beginsStorm_1 rfl (by omega) (fun c1 => ?_) (fun c1 => ?_)
  · refine v_iconst (pc := 16) cx dX5_beginsStorm_16 ?_
    refine v_goto (pc := 17) cx 21 dX5_beginsStorm_17 rfl ?_
    refine v_ireturn (pc := 21) cx hI rfl ?_ dX5_beginsStorm_21
    exact ⟨Or.inl ⟨rfl, Or.inl (by omega)⟩, rfl⟩
  · refine v_aload_n (pc := 4) cx rfl ga0 dX5_beginsStorm_4 ?_
    refine v_iload_n (pc := 5) cx rfl ga1 dX5_beginsStorm_5 ?_
    refine v_iconst (pc := 6) cx dX5_beginsStorm_6 ?_
    refine v_isub (pc := 7) cx dX5_beginsStorm_7 ?_
    refine v_iload_n (pc := 8) cx rfl ga1 dX5_beginsStorm_8 ?_
    rw [show ((i : Int) - 1) = ((i - 1 : Nat) : Int) by omega]
    refine v_callVI (pc := 9) cx hR (c_Mk_ticksBetween _ _ _ _ h hm (by omega) (by omega)) mlX5_42 (by decide) (by assumption) rfl rfl rfl (Nat.le_of_ble_eq_true rfl) ⟨Nat.le_refl _, Nat.le_refl _⟩ dX5_beginsStorm_9 (fun v2 E2 hP => ?_)
    obtain ⟨rfl, rfl⟩ := hP
    have g2 := hT.1 i (by omega)
    have g3 := hT.1 (i - 1) (by omega)
    refine v_iload_n (pc := 12) cx rfl ga2 dX5_beginsStorm_12 ?_
    refine v_icmp_le (pc := 13) cx 20 dX5_beginsStorm_13 rfl (by omega) (fun c13 => ?_) (fun c13 => ?_)
    · refine v_iconst (pc := 20) cx dX5_beginsStorm_20 ?_
      refine v_ireturn (pc := 21) cx hI rfl ?_ dX5_beginsStorm_21
      refine ⟨Or.inr ⟨rfl, fun hb => ?_⟩, rfl⟩
      rcases hb with hb | hb <;> omega
    · refine v_iconst (pc := 16) cx dX5_beginsStorm_16 ?_
      refine v_goto (pc := 17) cx 21 dX5_beginsStorm_17 rfl ?_
      refine v_ireturn (pc := 21) cx hI rfl ?_ dX5_beginsStorm_21
      exact ⟨Or.inl ⟨rfl, Or.inr c13⟩, rfl⟩
theorem cnt_b {t : Nat → Int} {gap : Int} {k : Nat} (h : beg t gap k) : cnt t gap (k + 1) = cnt t gap k + 1 := by
  simp only [cnt]
  rw [if_pos (show k = 0 ∨ gap < t k - t (k - 1) from h)]
theorem cnt_n {t : Nat → Int} {gap : Int} {k : Nat} (h : ¬ beg t gap k) : cnt t gap (k + 1) = cnt t gap k := by
  simp only [cnt]
  rw [if_neg (show ¬ (k = 0 ∨ gap < t k - t (k - 1)) from h), Nat.add_zero]
set_option maxRecDepth 100000 in
set_option maxHeartbeats 4000000 in
theorem c_Mk_countStorms (lc : Launch) (G : Gc) (E : Wd) (nh : Nat) {o m : Nat} {gap : Int} {t p v : Nat → Int} (h : rMk G E o (m : Int) t p v) (hm : m ≤ 60) (hT : okT t m) (hg : 1 ≤ gap ∧ gap ≤ 1000) : CI lc G 3 yX5_countStorms cX5_countStorms 4 .int [.ref (gb G + o), .int (iI gap)] E nh 0 0 (fun v E' => v = (cnt t gap m : Int) ∧ E' = E) := by
  refine CI.mk (by decide +kernel) rfl (Nat.le_of_ble_eq_true rfl) ?_
  intro X hG hL cx hR hI
  subst hG; subst hL
  show V X E (nh, 0, 0) 0 [some (.ref (gb (fG X) + o)), some (.int (iI gap)), none, none] []
  obtain ⟨h0, ht, hp, hv⟩ := id h
  have loop : ∀ (d i : Nat), i ≤ m → m - i < d → V X E (nh, 0, 0) 4 [some (.ref (gb (fG X) + o)), some (.int (iI gap)), some (.int (iI (cnt t gap i : Int))), some (.int (iI (i : Int)))] [] := by
    intro d
    induction d with
    | zero => intro k hk hd; omega
    | succ d ih =>
      intro i hi hd
      refine v_iload_n (pc := 4) cx rfl ga3 dX5_countStorms_4 ?_
      refine v_aload_n (pc := 5) cx rfl ga0 dX5_countStorms_5 ?_
      refine v_getfield (pc := 6) cx flX5_25 (by assumption) gf3 dX5_countStorms_6 ?_
      refine v_icmp_ge (pc := 9) cx 30 dX5_countStorms_9 rfl (by omega) (fun c9 => ?_) (fun c9 => ?_)
      · refine v_iload_n (pc := 30) cx rfl ga2 dX5_countStorms_30 ?_
        refine v_ireturn (pc := 31) cx hI rfl ?_ dX5_countStorms_31
        rw [show i = m by omega]
        exact ⟨rfl, rfl⟩
      · refine v_aload_n (pc := 12) cx rfl ga0 dX5_countStorms_12 ?_
        refine v_iload_n (pc := 13) cx rfl ga3 dX5_countStorms_13 ?_
        refine v_iload_n (pc := 14) cx rfl ga1 dX5_countStorms_14 ?_
        refine v_callVI (pc := 15) cx hR (c_Mk_beginsStorm _ _ _ _ h hm hT (by omega) hg) mlX5_51 (by decide) (by assumption) rfl rfl rfl (Nat.le_of_ble_eq_true rfl) ⟨Nat.le_refl _, Nat.le_refl _⟩ dX5_countStorms_15 (fun v2 E2 hP => ?_)
        obtain ⟨hb, rfl⟩ := hP
        refine v_if_eq (pc := 18) cx 24 dX5_countStorms_18 rfl (by omega) (fun c18 => ?_) (fun c18 => ?_)
        · refine v_iinc (pc := 24) cx ga3 (sa3 rfl) dX5_countStorms_24 ?_
          refine v_goto (pc := 27) cx 4 dX5_countStorms_27 rfl ?_
          rcases hb with ⟨hb, -⟩ | ⟨-, hb⟩
          · omega
          · rw [← cnt_n hb]
            exact ih (i + 1) (by omega) (by omega)
        · refine v_iinc (pc := 21) cx ga2 (sa2 rfl) dX5_countStorms_21 ?_
          refine v_iinc (pc := 24) cx ga3 (sa3 rfl) dX5_countStorms_24 ?_
          refine v_goto (pc := 27) cx 4 dX5_countStorms_27 rfl ?_
          rcases hb with ⟨-, hb⟩ | ⟨hb, -⟩
          · rw [show ((cnt t gap i : Int) + 1) = ((cnt t gap i + 1 : Nat) : Int) from rfl, ← cnt_b hb]
            exact ih (i + 1) (by omega) (by omega)
          · omega
  refine v_iconst (pc := 0) cx dX5_countStorms_0 ?_
  refine v_istore_n (pc := 1) cx rfl (sa2 rfl) dX5_countStorms_1 ?_
  refine v_iconst (pc := 2) cx dX5_countStorms_2 ?_
  refine v_istore_n (pc := 3) cx rfl (sa3 rfl) dX5_countStorms_3 ?_
  exact loop (m + 1) 0 (by omega) (by omega)
set_option maxRecDepth 100000 in
set_option maxHeartbeats 4000000 in
theorem c_Mk_firstOfStorm (lc : Launch) (G : Gc) (E : Wd) (nh : Nat) {o m : Nat} {k gap : Int} {t p v : Nat → Int} (h : rMk G E o (m : Int) t p v) (hm : m ≤ 60) (hT : okT t m) (hg : 1 ≤ gap ∧ gap ≤ 1000) (hk : -2147483648 ≤ k ∧ k < 2147483648) : CI lc G 3 yX5_firstOfStorm cX5_firstOfStorm 5 .int [.ref (gb G + o), .int (iI k), .int (iI gap)] E nh 0 0 (fun v E' => ((∃ f : Nat, f < m ∧ beg t gap f ∧ (cnt t gap f : Int) = k ∧ v = f) ∨ (v = -1 ∧ ∀ f : Nat, f < m → beg t gap f → (cnt t gap f : Int) ≠ k)) ∧ E' = E) := by
  refine CI.mk (by decide +kernel) rfl (Nat.le_of_ble_eq_true rfl) ?_
  intro X hG hL cx hR hI
  subst hG; subst hL
  show V X E (nh, 0, 0) 0 [some (.ref (gb (fG X) + o)), some (.int (iI k)), some (.int (iI gap)), none, none] []
  obtain ⟨h0, ht, hp, hv⟩ := id h
  have loop : ∀ (d i : Nat), i ≤ m → m - i < d → (∀ f : Nat, f < i → beg t gap f → (cnt t gap f : Int) ≠ k) → V X E (nh, 0, 0) 5 [some (.ref (gb (fG X) + o)), some (.int (iI k)), some (.int (iI gap)), some (.int (iI (cnt t gap i : Int))), some (.int (iI (i : Int)))] [] := by
    intro d
    induction d with
    | zero => intro k hk hd; omega
    | succ d ih =>
      intro i hi hd hno
      have hcl := cnt_le t gap i
      refine v_iload (pc := 5) cx ga4 dX5_firstOfStorm_5 ?_
      refine v_aload_n (pc := 7) cx rfl ga0 dX5_firstOfStorm_7 ?_
      refine v_getfield (pc := 8) cx flX5_25 (by assumption) gf3 dX5_firstOfStorm_8 ?_
      refine v_icmp_ge (pc := 11) cx 41 dX5_firstOfStorm_11 rfl (by omega) (fun c11 => ?_) (fun c11 => ?_)
      · refine v_iconst (pc := 41) cx dX5_firstOfStorm_41 ?_
        refine v_ireturn (pc := 42) cx hI rfl ?_ dX5_firstOfStorm_42
        exact ⟨Or.inr ⟨rfl, fun f hf => hno f (by omega)⟩, rfl⟩
      · refine v_aload_n (pc := 14) cx rfl ga0 dX5_firstOfStorm_14 ?_
        refine v_iload (pc := 15) cx ga4 dX5_firstOfStorm_15 ?_
        refine v_iload_n (pc := 17) cx rfl ga2 dX5_firstOfStorm_17 ?_
        refine v_callVI (pc := 18) cx hR (c_Mk_beginsStorm _ _ _ _ h hm hT (by omega) hg) mlX5_51 (by decide) (by assumption) rfl rfl rfl (Nat.le_of_ble_eq_true rfl) ⟨Nat.le_refl _, Nat.le_refl _⟩ dX5_firstOfStorm_18 (fun v2 E2 hP => ?_)
        obtain ⟨hb, rfl⟩ := hP
        refine v_if_eq (pc := 21) cx 35 dX5_firstOfStorm_21 rfl (by omega) (fun c21 => ?_) (fun c21 => ?_)
        · refine v_iinc (pc := 35) cx ga4 (sa4 rfl) dX5_firstOfStorm_35 ?_
          refine v_goto (pc := 38) cx 5 dX5_firstOfStorm_38 rfl ?_
          rcases hb with ⟨hb, -⟩ | ⟨-, hb⟩
          · omega
          · rw [← cnt_n hb]
            refine ih (i + 1) (by omega) (by omega) (fun f hf hbf => ?_)
            by_cases e : f = i
            · exact absurd (e ▸ hbf) hb
            · exact hno f (by omega) hbf
        · rcases hb with ⟨-, hb⟩ | ⟨hb, -⟩
          · refine v_iload_n (pc := 24) cx rfl ga3 dX5_firstOfStorm_24 ?_
            refine v_iload_n (pc := 25) cx rfl ga1 dX5_firstOfStorm_25 ?_
            refine v_icmp_ne (pc := 26) cx 32 dX5_firstOfStorm_26 rfl (by omega) (fun c26 => ?_) (fun c26 => ?_)
            · refine v_iinc (pc := 32) cx ga3 (sa3 rfl) dX5_firstOfStorm_32 ?_
              refine v_iinc (pc := 35) cx ga4 (sa4 rfl) dX5_firstOfStorm_35 ?_
              refine v_goto (pc := 38) cx 5 dX5_firstOfStorm_38 rfl ?_
              rw [show ((cnt t gap i : Int) + 1) = ((cnt t gap i + 1 : Nat) : Int) from rfl, ← cnt_b hb]
              refine ih (i + 1) (by omega) (by omega) (fun f hf hbf => ?_)
              by_cases e : f = i
              · rw [e]; exact c26
              · exact hno f (by omega) hbf
            · refine v_iload (pc := 29) cx ga4 dX5_firstOfStorm_29 ?_
              refine v_ireturn (pc := 31) cx hI rfl ?_ dX5_firstOfStorm_31
              exact ⟨Or.inl ⟨i, by omega, hb, c26, rfl⟩, rfl⟩
          · omega
  refine v_iconst (pc := 0) cx dX5_firstOfStorm_0 ?_
  refine v_istore_n (pc := 1) cx rfl (sa3 rfl) dX5_firstOfStorm_1 ?_
  refine v_iconst (pc := 2) cx dX5_firstOfStorm_2 ?_
  refine v_istore (pc := 3) cx (sa4 rfl) dX5_firstOfStorm_3 ?_
  exact loop (m + 1) 0 (by omega) (by omega) (fun f hf => by omega)
set_option maxRecDepth 100000 in
set_option maxHeartbeats 4000000 in
theorem c_Mk_endOfStorm (lc : Launch) (G : Gc) (E : Wd) (nh : Nat) {o m f : Nat} {gap : Int} {t p v : Nat → Int} (h : rMk G E o (m : Int) t p v) (hm : m ≤ 60) (hT : okT t m) (hg : 1 ≤ gap ∧ gap ≤ 1000) (hf : f < m) : CI lc G 3 yX5_endOfStorm cX5_endOfStorm 4 .int [.ref (gb G + o), .int (iI (f : Int)), .int (iI gap)] E nh 0 0 (fun v E' => (∃ e : Nat, f < e ∧ e ≤ m ∧ (∀ j : Nat, f < j → j < e → ¬ beg t gap j) ∧ (e = m ∨ beg t gap e) ∧ v = e) ∧ E' = E) := by
  refine CI.mk (by decide +kernel) rfl (Nat.le_of_ble_eq_true rfl) ?_
  intro X hG hL cx hR hI
  subst hG; subst hL
  show V X E (nh, 0, 0) 0 [some (.ref (gb (fG X) + o)), some (.int (iI (f : Int))), some (.int (iI gap)), none] []
  obtain ⟨h0, ht, hp, hv⟩ := id h
  have loop : ∀ (d i : Nat), f + 1 ≤ i → i ≤ m → m - i < d → (∀ j : Nat, f < j → j < i → ¬ beg t gap j) → V X E (nh, 0, 0) 4 [some (.ref (gb (fG X) + o)), some (.int (iI (f : Int))), some (.int (iI gap)), some (.int (iI (i : Int)))] [] := by
    intro d
    induction d with
    | zero => intro k hk hd; omega
    | succ d ih =>
      intro i hi1 hi hd hno
      refine v_iload_n (pc := 4) cx rfl ga3 dX5_endOfStorm_4 ?_
      refine v_aload_n (pc := 5) cx rfl ga0 dX5_endOfStorm_5 ?_
      refine v_getfield (pc := 6) cx flX5_25 (by assumption) gf3 dX5_endOfStorm_6 ?_
      refine v_icmp_ge (pc := 9) cx 29 dX5_endOfStorm_9 rfl (by omega) (fun c9 => ?_) (fun c9 => ?_)
      · refine v_aload_n (pc := 29) cx rfl ga0 dX5_endOfStorm_29 ?_
        refine v_getfield (pc := 30) cx flX5_25 (by assumption) gf3 dX5_endOfStorm_30 ?_
        refine v_ireturn (pc := 33) cx hI rfl ?_ dX5_endOfStorm_33
        exact ⟨⟨m, hf, Nat.le_refl _, fun j hj1 hj2 => hno j hj1 (by omega), Or.inl rfl, rfl⟩, rfl⟩
      · refine v_aload_n (pc := 12) cx rfl ga0 dX5_endOfStorm_12 ?_
        refine v_iload_n (pc := 13) cx rfl ga3 dX5_endOfStorm_13 ?_
        refine v_iload_n (pc := 14) cx rfl ga2 dX5_endOfStorm_14 ?_
        refine v_callVI (pc := 15) cx hR (c_Mk_beginsStorm _ _ _ _ h hm hT (by omega) hg) mlX5_51 (by decide) (by assumption) rfl rfl rfl (Nat.le_of_ble_eq_true rfl) ⟨Nat.le_refl _, Nat.le_refl _⟩ dX5_endOfStorm_15 (fun v2 E2 hP => ?_)
        obtain ⟨hb, rfl⟩ := hP
        refine v_if_eq (pc := 18) cx 23 dX5_endOfStorm_18 rfl (by omega) (fun c18 => ?_) (fun c18 => ?_)
        · refine v_iinc (pc := 23) cx ga3 (sa3 rfl) dX5_endOfStorm_23 ?_
          refine v_goto (pc := 26) cx 4 dX5_endOfStorm_26 rfl ?_
          rcases hb with ⟨hb, -⟩ | ⟨-, hb⟩
          · omega
          · refine ih (i + 1) (by omega) (by omega) (by omega) (fun j hj1 hj2 hbj => ?_)
            by_cases e : j = i
            · exact absurd (e ▸ hbj) hb
            · exact hno j hj1 (by omega) hbj
        · rcases hb with ⟨-, hb⟩ | ⟨hb, -⟩
          · refine v_iload_n (pc := 21) cx rfl ga3 dX5_endOfStorm_21 ?_
            refine v_ireturn (pc := 22) cx hI rfl ?_ dX5_endOfStorm_22
            exact ⟨⟨i, by omega, hi, hno, Or.inr hb, rfl⟩, rfl⟩
          · omega
  refine v_iload_n (pc := 0) cx rfl ga1 dX5_endOfStorm_0 ?_
  refine v_iconst (pc := 1) cx dX5_endOfStorm_1 ?_
  refine v_iadd (pc := 2) cx dX5_endOfStorm_2 ?_
  refine v_istore_n (pc := 3) cx rfl (sa3 rfl) dX5_endOfStorm_3 ?_
  exact loop (m + 1) (f + 1) (by omega) (by omega) (by omega) (fun j hj1 hj2 => by omega)
set_option maxRecDepth 100000 in
set_option maxHeartbeats 4000000 in
theorem c_Mk_loss (lc : Launch) (G : Gc) (E : Wd) (nh : Nat) {o m f e : Nat} {c : Int} {t p v : Nat → Int} (h : rMk G E o (m : Int) t p v) (hm : m ≤ 60) (hT : okT t m) (hf : f < e) (he : e ≤ m) (hc : 0 ≤ c ∧ c ≤ 10000) : CI lc G 2 yX5_lossBetweenTips cX5_lossBetweenTips 6 .int [.ref (gb G + o), .int (iI (f : Int)), .int (iI (e : Int)), .int (iI c)] E nh 0 0 (fun v E' => v = lossTo t c f (e - f - 1) ∧ E' = E) := by
  refine CI.mk (by decide +kernel) rfl (Nat.le_of_ble_eq_true rfl) ?_
  intro X hG hL cx hR hI
  subst hG; subst hL
  show V X E (nh, 0, 0) 0 [some (.ref (gb (fG X) + o)), some (.int (iI (f : Int))), some (.int (iI (e : Int))), some (.int (iI c)), none, none] []
  obtain ⟨h0, ht, hp, hv⟩ := id h
  have loop : ∀ (d i : Nat), f + 1 + i ≤ e → e - (f + 1 + i) < d → V X E (nh, 0, 0) 8 [some (.ref (gb (fG X) + o)), some (.int (iI (f : Int))), some (.int (iI (e : Int))), some (.int (iI c)), some (.int (iI (lossTo t c f i))), some (.int (iI ((f + 1 + i : Nat) : Int)))] [] := by
    intro d
    induction d with
    | zero => intro k hk hd; omega
    | succ d ih =>
      intro i hi hd
      refine v_iload (pc := 8) cx ga5 dX5_lossBetweenTips_8 ?_
      refine v_iload_n (pc := 10) cx rfl ga2 dX5_lossBetweenTips_10 ?_
      refine v_icmp_ge (pc := 11) cx 39 dX5_lossBetweenTips_11 rfl (by omega) (fun c11 => ?_) (fun c11 => ?_)
      · refine v_iload (pc := 39) cx ga4 dX5_lossBetweenTips_39 ?_
        refine v_ireturn (pc := 41) cx hI rfl ?_ dX5_lossBetweenTips_41
        rw [show e - f - 1 = i by omega]
        exact ⟨rfl, rfl⟩
      · refine v_iload (pc := 14) cx ga4 dX5_lossBetweenTips_14 ?_
        refine v_iload_n (pc := 16) cx rfl ga3 dX5_lossBetweenTips_16 ?_
        refine v_aload_n (pc := 17) cx rfl ga0 dX5_lossBetweenTips_17 ?_
        refine v_iload (pc := 18) cx ga5 dX5_lossBetweenTips_18 ?_
        refine v_iconst (pc := 20) cx dX5_lossBetweenTips_20 ?_
        refine v_isub (pc := 21) cx dX5_lossBetweenTips_21 ?_
        refine v_iload (pc := 22) cx ga5 dX5_lossBetweenTips_22 ?_
        rw [show (((f + 1 + i : Nat) : Int) - 1) = ((f + i : Nat) : Int) by omega]
        refine v_callVI (pc := 24) cx hR (c_Mk_ticksBetween _ _ _ _ h hm (by omega) (by omega)) mlX5_42 (by decide) (by assumption) rfl rfl rfl (Nat.le_of_ble_eq_true rfl) ⟨Nat.le_refl _, Nat.le_refl _⟩ dX5_lossBetweenTips_24 (fun v2 E2 hP => ?_)
        obtain ⟨rfl, rfl⟩ := hP
        have g2 := hT.1 (f + 1 + i) (by omega)
        have g3 := hT.1 (f + i) (by omega)
        have g4 := hT.2 (f + i) (f + 1 + i) (by omega) (by omega)
        refine v_callSI (pc := 27) cx hR (c_quotient _ _ _ _ (by omega)) mlX5_55 (by decide) rfl (Nat.le_of_ble_eq_true rfl) ⟨Nat.le_refl _, Nat.le_refl _⟩ dX5_lossBetweenTips_27 (fun v3 E3 hP => ?_)
        obtain ⟨rfl, rfl⟩ := hP
        refine v_iadd (pc := 30) cx dX5_lossBetweenTips_30 ?_
        refine v_istore (pc := 31) cx (sa4 rfl) dX5_lossBetweenTips_31 ?_
        refine v_iinc (pc := 33) cx ga5 (sa5 rfl) dX5_lossBetweenTips_33 ?_
        refine v_goto (pc := 36) cx 8 dX5_lossBetweenTips_36 rfl ?_
        exact ih (i + 1) (by omega) (by omega)
  refine v_iconst (pc := 0) cx dX5_lossBetweenTips_0 ?_
  refine v_istore (pc := 1) cx (sa4 rfl) dX5_lossBetweenTips_1 ?_
  refine v_iload_n (pc := 3) cx rfl ga1 dX5_lossBetweenTips_3 ?_
  refine v_iconst (pc := 4) cx dX5_lossBetweenTips_4 ?_
  refine v_iadd (pc := 5) cx dX5_lossBetweenTips_5 ?_
  refine v_istore (pc := 6) cx (sa5 rfl) dX5_lossBetweenTips_6 ?_
  exact loop (m + 1) 0 (by omega) (by omega)
set_option maxRecDepth 100000 in
set_option maxHeartbeats 4000000 in
theorem c_Mk_peak (lc : Launch) (G : Gc) (E : Wd) (nh : Nat) {o m f e : Nat} {t p v : Nat → Int} (h : rMk G E o (m : Int) t p v) (hm : m ≤ 60) (hT : okT t m) (hf : f < e) (he : e ≤ m) : CI lc G 2 yX5_peak cX5_peak 6 .int [.ref (gb G + o), .int (iI (f : Int)), .int (iI (e : Int))] E nh 0 0 (fun v E' => isPk t f e v ∧ E' = E) := by
  refine CI.mk (by decide +kernel) rfl (Nat.le_of_ble_eq_true rfl) ?_
  intro X hG hL cx hR hI
  subst hG; subst hL
  show V X E (nh, 0, 0) 0 [some (.ref (gb (fG X) + o)), some (.int (iI (f : Int))), some (.int (iI (e : Int))), none, none, none] []
  obtain ⟨h0, ht, hp, hv⟩ := id h
  have inner : ∀ (d a i : Nat) (pk : Int), f ≤ a → a ≤ i → i < e → i - a < d → (∀ j : Nat, f ≤ j → j < a → 30 ≤ t i - t j) → 0 ≤ pk → pk ≤ 60 →
      (∀ a' : Nat, f ≤ a' → a' ≤ i → t i - t a' < 30 → (∀ j : Nat, f ≤ j → j < a' → 30 ≤ t i - t j) → V X E (nh, 0, 0) 40 [some (.ref (gb (fG X) + o)), some (.int (iI (f : Int))), some (.int (iI (e : Int))), some (.int (iI pk)), some (.int (iI (a' : Int))), some (.int (iI (i : Int)))] []) →
      V X E (nh, 0, 0) 14 [some (.ref (gb (fG X) + o)), some (.int (iI (f : Int))), some (.int (iI (e : Int))), some (.int (iI pk)), some (.int (iI (a : Int))), some (.int (iI (i : Int)))] [] := by
    intro d
    induction d with
    | zero => intro a i pk hk hd; omega
    | succ d ih =>
      intro a i pk ha1 ha2 hi hd hno hp0 hp1 kk
      refine v_iload (pc := 14) cx ga4 dX5_peak_14 ?_
      refine v_iload (pc := 16) cx ga5 dX5_peak_16 ?_
      refine v_icmp_ge (pc := 18) cx 40 dX5_peak_18 rfl (by omega) (fun c18 => ?_) (fun c18 => ?_)
      · have e2 : a = i := by omega
        exact kk a ha1 ha2 (by rw [e2]; omega) hno
      · refine v_aload_n (pc := 21) cx rfl ga0 dX5_peak_21 ?_
        refine v_iload (pc := 22) cx ga4 dX5_peak_22 ?_
        refine v_iload (pc := 24) cx ga5 dX5_peak_24 ?_
        refine v_callVI (pc := 26) cx hR (c_Mk_ticksBetween _ _ _ _ h hm (by omega) (by omega)) mlX5_42 (by decide) (by assumption) rfl rfl rfl (Nat.le_of_ble_eq_true rfl) ⟨Nat.le_refl _, Nat.le_refl _⟩ dX5_peak_26 (fun v2 E2 hP => ?_)
        obtain ⟨rfl, rfl⟩ := hP
        have g2 := hT.1 i (by omega)
        have g3 := hT.1 a (by omega)
        refine v_bipush (pc := 29) cx (by decide) dX5_peak_29 ?_
        refine v_icmp_lt (pc := 31) cx 40 dX5_peak_31 rfl (by omega) (fun c31 => ?_) (fun c31 => ?_)
        · exact kk a ha1 ha2 c31 hno
        · refine v_iinc (pc := 34) cx ga4 (sa4 rfl) dX5_peak_34 ?_
          refine v_goto (pc := 37) cx 14 dX5_peak_37 rfl ?_
          refine ih (a + 1) i pk (by omega) (by omega) hi (by omega) (fun j hj1 hj2 => ?_) hp0 hp1 kk
          by_cases e2 : j = a
          · rw [e2]; exact c31
          · exact hno j hj1 (by omega)
  have loop : ∀ (d a i : Nat) (pk : Int), f ≤ a → a ≤ i → i ≤ e → e - i < d → (∀ j : Nat, f ≤ j → j < a → i < e → 30 ≤ t i - t j) → 0 ≤ pk → pk ≤ 60 →
      ((i = f ∧ pk = 0) ∨ (∃ x y : Nat, f ≤ x ∧ x ≤ y ∧ y < i ∧ t y - t x < 30 ∧ pk = (y : Int) - x + 1)) → (∀ x y : Nat, f ≤ x → x ≤ y → y < i → t y - t x < 30 → (y : Int) - x + 1 ≤ pk) →
      V X E (nh, 0, 0) 8 [some (.ref (gb (fG X) + o)), some (.int (iI (f : Int))), some (.int (iI (e : Int))), some (.int (iI pk)), some (.int (iI (a : Int))), some (.int (iI (i : Int)))] [] := by
    intro d
    induction d with
    | zero => intro a i pk hk hd; omega
    | succ d ih =>
      intro a i pk ha1 ha2 hi hd hno hp0 hp1 hat hup
      refine v_iload (pc := 8) cx ga5 dX5_peak_8 ?_
      refine v_iload_n (pc := 10) cx rfl ga2 dX5_peak_10 ?_
      refine v_icmp_ge (pc := 11) cx 58 dX5_peak_11 rfl (by omega) (fun c11 => ?_) (fun c11 => ?_)
      · refine v_iload_n (pc := 58) cx rfl ga3 dX5_peak_58 ?_
        refine v_ireturn (pc := 59) cx hI rfl ?_ dX5_peak_59
        have e2 : i = e := by omega
        subst e2
        rcases hat with ⟨e3, -⟩ | hat
        · omega
        · exact ⟨⟨hat, hup⟩, rfl⟩
      · refine inner (m + 1) a i pk ha1 ha2 (by omega) (by omega) (fun j hj1 hj2 => hno j hj1 hj2 (by omega)) hp0 hp1 (fun a' b1 b2 b3 b4 => ?_)
        refine v_iload_n (pc := 40) cx rfl ga3 dX5_peak_40 ?_
        refine v_iload (pc := 41) cx ga5 dX5_peak_41 ?_
        refine v_iload (pc := 43) cx ga4 dX5_peak_43 ?_
        refine v_isub (pc := 45) cx dX5_peak_45 ?_
        refine v_iconst (pc := 46) cx dX5_peak_46 ?_
        refine v_iadd (pc := 47) cx dX5_peak_47 ?_
        refine v_callSI (pc := 48) cx hR (c_max _ _ _ _ (by omega)) mlX5_46 (by decide) rfl (Nat.le_of_ble_eq_true rfl) ⟨Nat.le_refl _, Nat.le_refl _⟩ dX5_peak_48 (fun v3 E3 hP => ?_)
        obtain ⟨rfl, rfl⟩ := hP
        refine v_istore_n (pc := 51) cx rfl (sa3 rfl) dX5_peak_51 ?_
        refine v_iinc (pc := 52) cx ga5 (sa5 rfl) dX5_peak_52 ?_
        refine v_goto (pc := 55) cx 8 dX5_peak_55 rfl ?_
        refine ih a' (i + 1) (max pk ((i : Int) - a' + 1)) b1 (by omega) (by omega) (by omega) (fun j hj1 hj2 hi2 => ?_) (by omega) (by omega) ?_ (fun x y hx hxy hy hty => ?_)
        · have := b4 j hj1 hj2
          have := hT.2 i (i + 1) (by omega) (by omega)
          omega
        · right
          by_cases hmx : pk ≤ (i : Int) - a' + 1
          · exact ⟨a', i, b1, b2, by omega, b3, by omega⟩
          · rcases hat with ⟨e3, e4⟩ | ⟨x, y, q1, q2, q3, q4, q5⟩
            · omega
            · exact ⟨x, y, q1, q2, by omega, q4, by omega⟩
        · by_cases e2 : y = i
          · subst e2
            by_cases e3 : x < a'
            · have := b4 x hx e3
              omega
            · omega
          · have := hup x y hx hxy (by omega) hty
            omega
  refine v_iconst (pc := 0) cx dX5_peak_0 ?_
  refine v_istore_n (pc := 1) cx rfl (sa3 rfl) dX5_peak_1 ?_
  refine v_iload_n (pc := 2) cx rfl ga1 dX5_peak_2 ?_
  refine v_istore (pc := 3) cx (sa4 rfl) dX5_peak_3 ?_
  refine v_iload_n (pc := 5) cx rfl ga1 dX5_peak_5 ?_
  refine v_istore (pc := 6) cx (sa5 rfl) dX5_peak_6 ?_
  exact loop (m + 1) f f 0 (by omega) (by omega) (by omega) (by omega) (fun j hj1 hj2 => by omega) (by omega) (by omega) (Or.inl ⟨rfl, rfl⟩) (fun x y hx hxy hy => by omega)
set_option maxRecDepth 100000 in
set_option maxHeartbeats 4000000 in
theorem c_Mk_copyFrom (lc : Launch) (G : Gc) (E : Wd) (nh : Nat) {o oo : Nat} {m m' : Int} {b l r b' l' r' : Nat → Int} (h : rMk G E o m b l r) (h' : rMk G E oo m' b' l' r') (hd : o + 4 ≤ oo ∨ oo + 4 ≤ o) : CV lc G 2 yX5_copyFrom cX5_copyFrom 2 [.ref (gb G + o), .ref (gb G + oo)] E nh 0 0 (fun E' => (∃ b2 l2 r2 : Nat → Int, rMk G E' o m' b2 l2 r2 ∧ ∀ j, j < 60 → b2 j = b' j ∧ l2 j = l' j ∧ r2 j = r' j) ∧ Out E E' o (o + 4)) := by
  refine CV.mk (by decide +kernel) rfl (Nat.le_of_ble_eq_true rfl) ?_
  intro X hG hL cx hR hI hini
  subst hG; subst hL
  show V X E (nh, 0, 0) 0 [some (.ref (gb (fG X) + o)), some (.ref (gb (fG X) + oo))] []
  obtain ⟨h0, hb, hl, hr⟩ := id h
  obtain ⟨g0, gb1, gl, gr⟩ := id h'
  have hFr : Out E E o (o + 4) := fun j hj => rfl
  refine v_aload_n (pc := 0) cx rfl ga1 dX5_copyFrom_0 ?_
  refine v_getfield (pc := 1) cx flX5_9 (by assumption) gf0 dX5_copyFrom_1 ?_
  refine v_aload_n (pc := 4) cx rfl ga0 dX5_copyFrom_4 ?_
  refine v_getfield (pc := 5) cx flX5_9 (by assumption) gf0 dX5_copyFrom_5 ?_
  refine v_callSV (pc := 8) cx hR (c_copyRow _ _ _ _ (by omega) gb1 hb) mlX5_21 (by decide) rfl (Nat.le_of_ble_eq_true rfl) ⟨Nat.le_refl _, Nat.le_refl _⟩ dX5_copyFrom_8 (fun E1 hP => ?_)
  obtain ⟨hb, hF⟩ := hP
  replace h0 := (hF _ (by omega)).trans h0
  replace hl := (hF _ (by omega)).trans hl
  replace hr := (hF _ (by omega)).trans hr
  replace g0 := (hF _ (by omega)).trans g0
  replace gb1 := (hF _ (by omega)).trans gb1
  replace gl := (hF _ (by omega)).trans gl
  replace gr := (hF _ (by omega)).trans gr
  replace hFr := fun j hj => (hF j (by omega)).trans (hFr j hj)
  refine v_aload_n (pc := 11) cx rfl ga1 dX5_copyFrom_11 ?_
  refine v_getfield (pc := 12) cx flX5_15 (by assumption) gf1 dX5_copyFrom_12 ?_
  refine v_aload_n (pc := 15) cx rfl ga0 dX5_copyFrom_15 ?_
  refine v_getfield (pc := 16) cx flX5_15 (by assumption) gf1 dX5_copyFrom_16 ?_
  refine v_callSV (pc := 19) cx hR (c_copyRow _ _ _ _ (by omega) gl hl) mlX5_21 (by decide) rfl (Nat.le_of_ble_eq_true rfl) ⟨Nat.le_refl _, Nat.le_refl _⟩ dX5_copyFrom_19 (fun E1 hP => ?_)
  obtain ⟨hl, hF⟩ := hP
  replace h0 := (hF _ (by omega)).trans h0
  replace hb := (hF _ (by omega)).trans hb
  replace hr := (hF _ (by omega)).trans hr
  replace g0 := (hF _ (by omega)).trans g0
  replace gb1 := (hF _ (by omega)).trans gb1
  replace gl := (hF _ (by omega)).trans gl
  replace gr := (hF _ (by omega)).trans gr
  replace hFr := fun j hj => (hF j (by omega)).trans (hFr j hj)
  refine v_aload_n (pc := 22) cx rfl ga1 dX5_copyFrom_22 ?_
  refine v_getfield (pc := 23) cx flX5_18 (by assumption) gf2 dX5_copyFrom_23 ?_
  refine v_aload_n (pc := 26) cx rfl ga0 dX5_copyFrom_26 ?_
  refine v_getfield (pc := 27) cx flX5_18 (by assumption) gf2 dX5_copyFrom_27 ?_
  refine v_callSV (pc := 30) cx hR (c_copyRow _ _ _ _ (by omega) gr hr) mlX5_21 (by decide) rfl (Nat.le_of_ble_eq_true rfl) ⟨Nat.le_refl _, Nat.le_refl _⟩ dX5_copyFrom_30 (fun E1 hP => ?_)
  obtain ⟨hr, hF⟩ := hP
  replace h0 := (hF _ (by omega)).trans h0
  replace hb := (hF _ (by omega)).trans hb
  replace hl := (hF _ (by omega)).trans hl
  replace g0 := (hF _ (by omega)).trans g0
  replace gb1 := (hF _ (by omega)).trans gb1
  replace gl := (hF _ (by omega)).trans gl
  replace gr := (hF _ (by omega)).trans gr
  replace hFr := fun j hj => (hF j (by omega)).trans (hFr j hj)
  refine v_aload_n (pc := 33) cx rfl ga0 dX5_copyFrom_33 ?_
  refine v_aload_n (pc := 34) cx rfl ga1 dX5_copyFrom_34 ?_
  refine v_getfield (pc := 35) cx flX5_25 (by assumption) gf3 dX5_copyFrom_35 ?_
  refine v_putfield (pc := 38) cx fpX5_25 h0 ⟨rfl, rfl⟩ pf3 dX5_copyFrom_38 (fun E38 hE38 hF38 => ?_)
  replace h0 := hE38
  replace hb := (hF38 _ (by omega)).trans hb
  replace hl := (hF38 _ (by omega)).trans hl
  replace hr := (hF38 _ (by omega)).trans hr
  replace hFr := fun j hj => (hF38 j (by omega)).trans (hFr j hj)
  refine v_return (pc := 41) cx hI ?_ dX5_copyFrom_41
  exact ⟨⟨_, _, _, ⟨h0, hb, hl, hr⟩, fun j hj => ⟨cpyI_in hj, cpyI_in hj, cpyI_in hj⟩⟩, hFr⟩
end
section
/-! the abstract state: numbers (0 tick, 1 film, 2 content, 3 ticks of the tip, 4 reserve, 5 count, 6 fell, 7 tipped, 8 over, 9 lost, 10 dried, 11.. settings), showers, gears, marks -/
abbrev Sg : Type := (Nat → Int) × List (Int × Int × Int) × List (Int × Int) × List (Int × Int × Int)
def lst2 (f s : Nat → Int) (m : Nat) : List (Int × Int) := (List.range m).map (fun j => (f j, s j))
def rainL (L : List (Int × Int × Int)) (t : Int) : Int := (L.map (fun x => if x.1 ≤ t ∧ t < x.1 + x.2.1 then x.2.2 else 0)).sum
theorem rainTo_L {b l r : Nat → Int} {t : Int} : ∀ m, rainTo b l r t m = rainL (lst b l r m) t := by
  intro m
  induction m with
  | zero => rfl
  | succ m ih =>
    simp only [rainTo]
    rw [lst_succ, ih]
    simp [rainL, List.sum_append]
theorem lst_at {b l r : Nat → Int} {m j : Nat} (h : j < m) (d : Int × Int × Int) : (lst b l r m).getD j d = (b j, l j, r j) := by
  simp [lst, List.getD_eq_getElem?_getD, h]
theorem lst2_at {f s : Nat → Int} {m j : Nat} (h : j < m) (d : Int × Int) : (lst2 f s m).getD j d = (f j, s j) := by
  simp [lst2, List.getD_eq_getElem?_getD, h]
theorem lst2_len {f s : Nat → Int} {m : Nat} : (lst2 f s m).length = m := by simp [lst2]
theorem lst2_ext {f s f' s' : Nat → Int} {m : Nat} (h : ∀ j, j < m → f j = f' j ∧ s j = s' j) : lst2 f s m = lst2 f' s' m := by
  apply List.map_congr_left
  intro j hj
  obtain ⟨h1, h2⟩ := h j (List.mem_range.mp hj)
  rw [h1, h2]
abbrev d3 : Int × Int × Int := (0, 0, 0)
abbrev d2 : Int × Int := (0, 0)
theorem pL_ext {c : Int64} {f g : Nat → Int} : ∀ m, (∀ j, j < m → f j = g j) → pL c f m = pL c g m := by
  intro m
  induction m with
  | zero => intro _; rfl
  | succ m ih =>
    intro h
    simp only [pL]
    rw [ih (fun j hj => h j (by omega)), h m (by omega)]
theorem plc_ext {cn te : Int} {f s f' s' : Nat → Int} {m : Nat} (h : ∀ j, j < m → f j = f' j ∧ s j = s' j) : plc cn f s m te = plc cn f' s' m te := by
  unfold plc
  rw [pL_ext m (fun j hj => (h j hj).1), pL_ext m (fun j hj => (h j hj).2)]
def plG (ge : List (Int × Int)) (cn te : Int) : Int := plc cn (fun j => (ge.getD j d2).1) (fun j => (ge.getD j d2).2) ge.length te
theorem plG_lst {f s : Nat → Int} {m : Nat} {cn te : Int} : plG (lst2 f s m) cn te = plc cn f s m te := by
  unfold plG
  rw [lst2_len]
  exact plc_ext (fun j hj => by rw [lst2_at hj]; exact ⟨rfl, rfl⟩)
/-! one tick -/
def tkB (s : Nat → Int) (rain : Int) : BT := bS (rain - fTaken rain (s 13) (s 1)) (if rain = 0 then 1 else 0) (s 11) (s 12) (s 15) (s 2, s 3, s 7, s 8, s 9, 0)
def tkR (s : Nat → Int) (rain : Int) : Int := bR (rain - fTaken rain (s 13) (s 1)) (if rain = 0 then 1 else 0) (s 11) (s 15) (s 2, s 3, s 7, s 8, s 9, 0)
def tkS (s : Nat → Int) (rain : Int) : Nat → Int := fun i => match i with
  | 0 => s 0 + 1
  | 1 => s 1 + fTaken rain (s 13) (s 1) - fGone rain (s 13) (s 1) (s 14)
  | 2 => (tkB s rain).1
  | 3 => (tkB s rain).2.1
  | 4 => if 0 < s 4 then s 4 - 1 else s 4
  | 5 => if 0 < s 4 then s 5 + 1 else s 5
  | 6 => s 6 + rain
  | 7 => (tkB s rain).2.2.1
  | 8 => (tkB s rain).2.2.2.1
  | 9 => (tkB s rain).2.2.2.2.1
  | 10 => s 10 + fGone rain (s 13) (s 1) (s 14) + (tkB s rain).2.2.2.2.2
  | i + 11 => s (i + 11)
def tkRain (σ : Sg) : Int := rainL σ.2.1 (σ.1 0)
def tkTip (σ : Sg) : Int := tkR σ.1 (tkRain σ)
def tick (σ : Sg) : Sg := (tkS σ.1 (tkRain σ), σ.2.1.filter (fun x => decide (σ.1 0 + 1 < x.1 + x.2.1)), σ.2.2.1,
  if tkTip σ = -1 then σ.2.2.2 else addMk σ.2.2.2 (σ.1 0, plG σ.2.2.1 (σ.1 5) (σ.1 16), tkTip σ))
def ticks (σ : Sg) : Nat → Sg
  | 0 => σ
  | k + 1 => tick (ticks σ k)
def tips (σ : Sg) : Nat → Nat
  | 0 => 0
  | k + 1 => tips σ k + if tkTip (ticks σ k) = -1 then 0 else 1
/-! what always holds -/
def okSc (s : Nat → Int) : Prop :=
  (0 ≤ s 0 ∧ s 0 ≤ 5000) ∧ (0 ≤ s 1 ∧ s 1 ≤ 200) ∧ 0 ≤ s 2 ∧ (0 ≤ s 3 ∧ s 3 ≤ 20) ∧ (0 ≤ s 4 ∧ s 4 ≤ 2000) ∧ (0 ≤ s 5 ∧ s 5 ≤ s 0) ∧ (s 6 ≤ 2400 * s 0 ∧ 0 ≤ s 7 ∧ 0 ≤ s 8 ∧ 0 ≤ s 9 ∧ 0 ≤ s 10 ∧ s 6 = s 7 + s 8 + s 9 + s 10 + s 1 + s 2)
def okSe (s : Nat → Int) : Prop :=
  (20 ≤ s 11 ∧ s 11 ≤ 500) ∧ (0 ≤ s 12 ∧ s 12 ≤ 20) ∧ (0 ≤ s 13 ∧ s 13 ≤ 200) ∧ (0 ≤ s 14 ∧ s 14 ≤ 50) ∧ (0 ≤ s 15 ∧ s 15 ≤ 50) ∧ (10 ≤ s 16 ∧ s 16 ≤ 1000) ∧ (1 ≤ s 17 ∧ s 17 ≤ 2000) ∧ (1 ≤ s 18 ∧ s 18 ≤ 1000)
def okSh (L : List (Int × Int × Int)) : Prop := L.length ≤ 12 ∧ ∀ x ∈ L, (0 ≤ x.1 ∧ x.1 ≤ 5000) ∧ (1 ≤ x.2.1 ∧ x.2.1 ≤ 500) ∧ (1 ≤ x.2.2 ∧ x.2.2 ≤ 200)
def okGe (L : List (Int × Int)) : Prop := L.length ≤ 3 ∧ ∀ x ∈ L, (8 ≤ x.1 ∧ x.1 ≤ 120) ∧ (8 ≤ x.2 ∧ x.2 ≤ 120)
def okMk (L : List (Int × Int × Int)) (t0 : Int) : Prop := L.length ≤ 60 ∧ (∀ x ∈ L, 0 ≤ x.1 ∧ x.1 < t0) ∧ L.Pairwise (fun x y => x.1 < y.1)
def ok (σ : Sg) : Prop := okSc σ.1 ∧ okSe σ.1 ∧ okSh σ.2.1 ∧ okGe σ.2.2.1 ∧ okMk σ.2.2.2 (σ.1 0)
theorem rainL_bd {L : List (Int × Int × Int)} (h : ∀ x ∈ L, (0 ≤ x.1 ∧ x.1 ≤ 5000) ∧ (1 ≤ x.2.1 ∧ x.2.1 ≤ 500) ∧ (1 ≤ x.2.2 ∧ x.2.2 ≤ 200)) (t : Int) : 0 ≤ rainL L t ∧ rainL L t ≤ 200 * L.length := by
  induction L with
  | nil => exact ⟨Int.le_refl _, by simp [rainL]⟩
  | cons a L ih =>
    have h1 := h a List.mem_cons_self
    have h2 := ih (fun x hx => h x (List.mem_cons_of_mem _ hx))
    have e : rainL (a :: L) t = (if a.1 ≤ t ∧ t < a.1 + a.2.1 then a.2.2 else 0) + rainL L t := by simp [rainL]
    rw [e, List.length_cons]
    split <;> omega
theorem tkRain_bd {σ : Sg} (h : ok σ) : 0 ≤ tkRain σ ∧ tkRain σ ≤ 2400 := by
  have h1 := rainL_bd h.2.2.1.2 (σ.1 0)
  have h2 := h.2.2.1.1
  unfold tkRain
  omega
theorem tkS_se {s : Nat → Int} {rain : Int} (h : okSe s) : okSe (tkS s rain) := h
theorem fT_bd {rain cap c : Int} (hr : 0 ≤ rain) : 0 ≤ fTaken rain cap c ∧ fTaken rain cap c ≤ rain ∧ (cap ≤ c → fTaken rain cap c = 0) ∧ (c ≤ cap → c + fTaken rain cap c ≤ cap) := by
  unfold fTaken
  omega
theorem tkS_sc {s : Nat → Int} {rain : Int} (h : okSc s) (hs : okSe s) (hr : 0 ≤ rain ∧ rain ≤ 2400) (ht : s 0 < 5000) : okSc (tkS s rain) := by
  obtain ⟨h0, h1, h2, h3, h4, h5, h6⟩ := h
  obtain ⟨e1, e2, e3, e4, e5, e6, e7, e8⟩ := hs
  have f1 := fT_bd (cap := s 13) (c := s 1) hr.1
  have f2 : 0 ≤ fGone rain (s 13) (s 1) (s 14) ∧ fGone rain (s 13) (s 1) (s 14) ≤ s 1 + fTaken rain (s 13) (s 1) := by
    unfold fGone
    split <;> omega
  have f3 : 0 ≤ bGone (s 2) (rain - fTaken rain (s 13) (s 1)) (if rain = 0 then 1 else 0) (s 15) ∧ bGone (s 2) (rain - fTaken rain (s 13) (s 1)) (if rain = 0 then 1 else 0) (s 15) ≤ s 2 + (rain - fTaken rain (s 13) (s 1)) := by
    unfold bGone
    split <;> omega
  unfold okSc
  simp only [tkS, tkB, bS]
  generalize fTaken rain (s 13) (s 1) = tk at *
  generalize fGone rain (s 13) (s 1) (s 14) = go at *
  generalize bGone (s 2) (rain - tk) (if rain = 0 then 1 else 0) (s 15) = bg at *
  by_cases c1 : 0 < s 3
  · simp only [if_pos c1]
    by_cases c4 : 0 < s 4
    · simp only [if_pos c4]; omega
    · simp only [if_neg c4]; omega
  · simp only [if_neg c1]
    by_cases c2 : s 11 ≤ s 2 + (rain - tk) - bg
    · simp only [if_pos c2]
      by_cases c4 : 0 < s 4
      · simp only [if_pos c4]; omega
      · simp only [if_neg c4]; omega
    · simp only [if_neg c2]
      by_cases c4 : 0 < s 4
      · simp only [if_pos c4]; omega
      · simp only [if_neg c4]; omega
theorem ok_addMk {L : List (Int × Int × Int)} {t0 : Int} (h : okMk L t0) (h0 : 0 ≤ t0) (p v : Int) : okMk (addMk L (t0, p, v)) (t0 + 1) := by
  obtain ⟨h1, h2, h3⟩ := h
  have key : ∀ M : List (Int × Int × Int), M.length ≤ 59 → (∀ x ∈ M, 0 ≤ x.1 ∧ x.1 < t0) → M.Pairwise (fun x y => x.1 < y.1) → okMk (M ++ [(t0, p, v)]) (t0 + 1) := by
    intro M m1 m2 m3
    refine ⟨by simp; omega, fun x hx => ?_, ?_⟩
    · rcases List.mem_append.mp hx with hx | hx
      · have := m2 x hx; omega
      · rw [List.mem_singleton.mp hx]; exact ⟨h0, by show t0 < t0 + 1; omega⟩
    · rw [List.pairwise_append]
      refine ⟨m3, List.pairwise_singleton _ _, fun a ha b hb => ?_⟩
      rw [List.mem_singleton.mp hb]
      exact (m2 a ha).2
  unfold addMk
  split
  · rename_i e
    refine key _ (by simp; omega) (fun x hx => h2 x (List.mem_of_mem_tail hx)) h3.tail
  · exact key _ (by omega) h2 h3
theorem okMk_le {L : List (Int × Int × Int)} {t0 t1 : Int} (h : okMk L t0) (h1 : t0 ≤ t1) : okMk L t1 := ⟨h.1, fun x hx => by have := h.2.1 x hx; omega, h.2.2⟩
theorem ok_tick {σ : Sg} (h : ok σ) (ht : σ.1 0 < 5000) : ok (tick σ) := by
  have hr := tkRain_bd h
  obtain ⟨h1, h2, h3, h4, h5⟩ := h
  refine ⟨tkS_sc h1 h2 hr ht, tkS_se h2, ⟨Nat.le_trans (List.length_filter_le _ _) h3.1, fun x hx => h3.2 x (List.mem_filter.mp hx).1⟩, h4, ?_⟩
  show okMk (if tkTip σ = -1 then σ.2.2.2 else addMk σ.2.2.2 (σ.1 0, plG σ.2.2.1 (σ.1 5) (σ.1 16), tkTip σ)) (σ.1 0 + 1)
  split
  · exact okMk_le h5 (by omega)
  · exact ok_addMk h5 h1.1.1 _ _
theorem ticks_0 {σ : Sg} : ∀ k, (ticks σ k).1 0 = σ.1 0 + k := by
  intro k
  induction k with
  | zero => simp [ticks]
  | succ k ih =>
    show (ticks σ k).1 0 + 1 = _
    rw [ih]
    omega
theorem ok_ticks {σ : Sg} (h : ok σ) : ∀ k : Nat, σ.1 0 + k ≤ 5000 → ok (ticks σ k) := by
  intro k
  induction k with
  | zero => intro _; exact h
  | succ k ih =>
    intro hk
    exact ok_tick (ih (by omega)) (by rw [ticks_0]; omega)
theorem tips_le {σ : Sg} : ∀ k, tips σ k ≤ k := by
  intro k
  induction k with
  | zero => exact Nat.le_refl _
  | succ k ih => simp only [tips]; split <;> omega
theorem okT_of {t p v : Nat → Int} {m : Nat} {t0 : Int} (h : okMk (lst t p v m) t0) (h0 : t0 ≤ 5000) : okT t m := by
  obtain ⟨h1, h2, h3⟩ := h
  have hm : ∀ j, j < m → (t j, p j, v j) ∈ lst t p v m := fun j hj => List.mem_map.mpr ⟨j, List.mem_range.mpr hj, rfl⟩
  refine ⟨fun i hi => by have := h2 _ (hm i hi); simp only at this; omega, fun i j hij hj => ?_⟩
  rw [List.pairwise_iff_getElem] at h3
  have := h3 i j (by rw [lst_len]; omega) (by rw [lst_len]; exact hj) hij
  simpa [lst] using this
theorem okSh_at {b l r : Nat → Int} {m : Nat} (h : okSh (lst b l r m)) : ∀ j, j < m → (0 ≤ b j ∧ b j ≤ 5000) ∧ (1 ≤ l j ∧ l j ≤ 500) ∧ (1 ≤ r j ∧ r j ≤ 200) := fun j hj => h.2 (b j, l j, r j) (List.mem_map.mpr ⟨j, List.mem_range.mpr hj, rfl⟩)
theorem okGe_at {f s : Nat → Int} {m : Nat} (h : okGe (lst2 f s m)) : ∀ j, j < m → (8 ≤ f j ∧ f j ≤ 120) ∧ (8 ≤ s j ∧ s j ≤ 120) := fun j hj => h.2 (f j, s j) (List.mem_map.mpr ⟨j, List.mem_range.mpr hj, rfl⟩)
end
section
/-! the class's State: raw cells, and the abstract state that they hold -/
def rSt (G : Gc) (E : Wd) (o : Nat) (st : Nat → Int) (n : Nat) (b l r : Nat → Int) (fc fd : Int) (B : BT) (cr cc : Int) (ng : Nat) (gf gs : Nat → Int) (nm : Nat) (t p v : Nat → Int) (tick fell : Int) : Prop :=
  E o = some (.inr (9, [.ref (gb G + (o + 1)), .ref (gb G + (o + 2)), .ref (gb G + (o + 6)), .ref (gb G + (o + 7)), .ref (gb G + (o + 8)), .ref (gb G + (o + 9)), .ref (gb G + (o + 12)), .int (iI tick), .int (iI fell)])) ∧ E (o + 1) = some (AI G 8 st) ∧ rSh G E (o + 2) n b l r ∧ E (o + 6) = some (oFi fc fd) ∧ E (o + 7) = some (oBk B) ∧ E (o + 8) = some (oCl cr cc) ∧ rGe G E (o + 9) ng gf gs ∧ rMk G E (o + 12) nm t p v
theorem rSt.out {G : Gc} {E E' : Wd} {o : Nat} {st : Nat → Int} {n : Nat} {b l r : Nat → Int} {fc fd : Int} {B : BT} {cr cc : Int} {ng : Nat} {gf gs : Nat → Int} {nm : Nat} {t p v : Nat → Int} {tick fell : Int} {x y : Nat} (h : rSt G E o st n b l r fc fd B cr cc ng gf gs nm t p v tick fell) (hE : Out E E' x y) (hxy : o + 16 ≤ x ∨ y ≤ o) : rSt G E' o st n b l r fc fd B cr cc ng gf gs nm t p v tick fell := by
  obtain ⟨h0, h1, h2, h3, h4, h5, h6, h7⟩ := h
  exact ⟨(hE _ (by omega)).trans h0, (hE _ (by omega)).trans h1, h2.out hE (by omega), (hE _ (by omega)).trans h3, (hE _ (by omega)).trans h4, (hE _ (by omega)).trans h5, h6.out hE (by omega), h7.out hE (by omega)⟩
/-- what the raw cells hold -/
def hSt (σ : Sg) (st : Nat → Int) (n : Nat) (b l r : Nat → Int) (fc fd : Int) (B : BT) (cr cc : Int) (ng : Nat) (gf gs : Nat → Int) (nm : Nat) (t p v : Nat → Int) (tick fell : Int) : Prop :=
  (∀ j, j < 8 → st j = σ.1 (11 + j)) ∧ lst b l r n = σ.2.1 ∧ n ≤ 12 ∧ fc = σ.1 1 ∧ (B.1 = σ.1 2 ∧ B.2.1 = σ.1 3 ∧ B.2.2.1 = σ.1 7 ∧ B.2.2.2.1 = σ.1 8 ∧ B.2.2.2.2.1 = σ.1 9 ∧ fd + B.2.2.2.2.2 = σ.1 10) ∧ cr = σ.1 4 ∧ cc = σ.1 5 ∧ (lst2 gf gs ng = σ.2.2.1 ∧ ng ≤ 3) ∧ (lst t p v nm = σ.2.2.2 ∧ nm ≤ 60) ∧ tick = σ.1 0 ∧ fell = σ.1 6
def isS (G : Gc) (E : Wd) (o : Nat) (σ : Sg) : Prop :=
  ∃ (st : Nat → Int) (n : Nat) (b l r : Nat → Int) (fc fd : Int) (B : BT) (cr cc : Int) (ng : Nat) (gf gs : Nat → Int) (nm : Nat) (t p v : Nat → Int) (tick fell : Int), rSt G E o st n b l r fc fd B cr cc ng gf gs nm t p v tick fell ∧ hSt σ st n b l r fc fd B cr cc ng gf gs nm t p v tick fell
theorem isS.out {G : Gc} {E E' : Wd} {o : Nat} {σ : Sg} {x y : Nat} (h : isS G E o σ) (hE : Out E E' x y) (hxy : o + 16 ≤ x ∨ y ≤ o) : isS G E' o σ := by
  obtain ⟨st, n, b, l, r, fc, fd, B, cr, cc, ng, gf, gs, nm, t, p, v, tick, fell, h1, h2⟩ := h
  exact ⟨st, n, b, l, r, fc, fd, B, cr, cc, ng, gf, gs, nm, t, p, v, tick, fell, h1.out hE hxy, h2⟩
set_option maxRecDepth 100000 in
set_option maxHeartbeats 4000000 in
theorem c_St_drumPlace (lc : Launch) (G : Gc) (E : Wd) (nh : Nat) {o : Nat} {st : Nat → Int} {n : Nat} {b l r : Nat → Int} {fc fd : Int} {B : BT} {cr cc : Int} {ng : Nat} {gf gs : Nat → Int} {nm : Nat} {t p v : Nat → Int} {tick fell : Int} (h : rSt G E o st n b l r fc fd B cr cc ng gf gs nm t p v tick fell) (hm : ng ≤ 3) (hs0 : ∀ j, j < ng → 8 ≤ gs j ∧ gs j ≤ 120) (ht : 10 ≤ st 5 ∧ st 5 ≤ 1000) : CI lc G 1 yX9_drumPlace cX9_drumPlace 1 .int [.ref (gb G + o)] E nh 0 0 (fun v E' => v = plc cc gf gs ng (st 5) ∧ E' = E) := by
  refine CI.mk (by decide +kernel) rfl (Nat.le_of_ble_eq_true rfl) ?_
  intro X hG hL cx hR hI
  subst hG; subst hL
  show V X E (nh, 0, 0) 0 [some (.ref (gb (fG X) + o))] []
  obtain ⟨h0, h1, h2, h3, h4, h5, h6, h7⟩ := h
  refine v_aload_n (pc := 0) cx rfl ga0 dX9_drumPlace_0 ?_
  refine v_getfield (pc := 1) cx flX9_46 (by assumption) gf5 dX9_drumPlace_1 ?_
  refine v_aload_n (pc := 4) cx rfl ga0 dX9_drumPlace_4 ?_
  refine v_getfield (pc := 5) cx flX9_39 (by assumption) gf4 dX9_drumPlace_5 ?_
  refine v_getfield (pc := 8) cx flX9_118 (by assumption) gf1 dX9_drumPlace_8 ?_
  refine v_aload_n (pc := 11) cx rfl ga0 dX9_drumPlace_11 ?_
  refine v_getfield (pc := 12) cx flX9_9 (by assumption) gf0 dX9_drumPlace_12 ?_
  refine v_iconst (pc := 15) cx dX9_drumPlace_15 ?_
  refine v_iaload (pc := 16) cx (5) (by assumption) (by omega) dX9_drumPlace_16 ?_
  refine v_callVI (pc := 17) cx hR (c_Ge_placeOf _ _ _ _ h6 hm hs0 ht) mlX9_121 (by decide) h6.1 rfl rfl rfl (Nat.le_of_ble_eq_true rfl) ⟨Nat.le_refl _, Nat.le_refl _⟩ dX9_drumPlace_17 (fun v2 E2 hP => ?_)
  obtain ⟨rfl, rfl⟩ := hP
  refine v_ireturn (pc := 20) cx hI rfl ?_ dX9_drumPlace_20
  exact ⟨rfl, rfl⟩
theorem bS_dr {rain d cap tt dg : Int} {c tl ti ov lo dr : Int} : bS rain d cap tt dg (c, tl, ti, ov, lo, dr) = ((bS rain d cap tt dg (c, tl, ti, ov, lo, 0)).1, (bS rain d cap tt dg (c, tl, ti, ov, lo, 0)).2.1, (bS rain d cap tt dg (c, tl, ti, ov, lo, 0)).2.2.1, (bS rain d cap tt dg (c, tl, ti, ov, lo, 0)).2.2.2.1, (bS rain d cap tt dg (c, tl, ti, ov, lo, 0)).2.2.2.2.1, dr + (bS rain d cap tt dg (c, tl, ti, ov, lo, 0)).2.2.2.2.2) := by
  unfold bS
  simp only
  split
  · simp
  · split <;> simp
theorem bR_dr {rain d cap dg : Int} {c tl ti ov lo dr : Int} : bR rain d cap dg (c, tl, ti, ov, lo, dr) = bR rain d cap dg (c, tl, ti, ov, lo, 0) := rfl
set_option maxRecDepth 100000 in
set_option maxHeartbeats 4000000 in
theorem c_St_passTick (lc : Launch) (G : Gc) (E : Wd) (nh : Nat) {o : Nat} {σ : Sg} (h : isS G E o σ) (hk : ok σ) (ht : σ.1 0 < 5000) : CI lc G 3 yX9_passTick cX9_passTick 4 .boolean [.ref (gb G + o)] E nh 0 0 (fun v E' => ((v = 1 ∧ tkTip σ ≠ -1) ∨ (v = 0 ∧ tkTip σ = -1)) ∧ isS G E' o (tick σ) ∧ Out E E' o (o + 16)) := by
  refine CI.mk (by decide +kernel) rfl (Nat.le_of_ble_eq_true rfl) ?_
  intro X hG hL cx hR hI
  subst hG; subst hL
  show V X E (nh, 0, 0) 0 [some (.ref (gb (fG X) + o)), none, none, none] []
  obtain ⟨st, n, b, l, r, fc, fd, B, cr, cn, ng, gf, gs, nm, t, p, v, tk, fell, ⟨h0, h1, h2, h3, h4, h5, h6, h7⟩, q1, q2, q3, q4, q5, q6, q7, q8, q9, q10, q11⟩ := h
  obtain ⟨c, tl, ti, ov, lo, bd⟩ := B
  obtain ⟨s, sh, ge, mk⟩ := σ
  simp only at q1 q2 q4 q5 q6 q7 q8 q9 q10 q11 ht
  obtain ⟨q51, q52, q53, q54, q55, q56⟩ := q5
  obtain ⟨q8, q8n⟩ := q8
  obtain ⟨q9, q9n⟩ := q9
  subst q2; subst q8; subst q9; subst q4; subst q51; subst q52; subst q53; subst q54; subst q55; subst q6; subst q7; subst q10; subst q11
  have hrb := tkRain_bd hk
  obtain ⟨⟨k0, k1, k2, k3, k4, k5, k6⟩, ⟨e1, e2, e3, e4, e5, e6, e7, e8⟩, k8, k9, k10⟩ := hk
  simp only at k0 k1 k2 k3 k4 k5 k6 e1 e2 e3 e4 e5 e6 e7 e8 k8 k9 k10 hrb
  have a0 : st 0 = s 11 := q1 0 (by omega)
  have a1 : st 1 = s 12 := q1 1 (by omega)
  have a2 : st 2 = s 13 := q1 2 (by omega)
  have a3 : st 3 = s 14 := q1 3 (by omega)
  have a4 : st 4 = s 15 := q1 4 (by omega)
  have a5 : st 5 = s 16 := q1 5 (by omega)
  have hFr : Out E E o (o + 16) := fun j hj => rfl
  have hra : rainTo b l r (s 0) n = tkRain (s, lst b l r n, lst2 gf gs ng, lst t p v nm) := rainTo_L n
  generalize hrain : tkRain (s, lst b l r n, lst2 gf gs ng, lst t p v nm) = rain at hra hrb
  have f1 := fT_bd (cap := s 13) (c := s 1) hrb.1
  refine v_aload_n (pc := 0) cx rfl ga0 dX9_passTick_0 ?_
  refine v_getfield (pc := 1) cx flX9_18 (by assumption) gf1 dX9_passTick_1 ?_
  refine v_aload_n (pc := 4) cx rfl ga0 dX9_passTick_4 ?_
  refine v_getfield (pc := 5) cx flX9_83 (by assumption) gf7 dX9_passTick_5 ?_
  refine v_callVI (pc := 8) cx hR (c_Sh_rainIn _ _ _ _ h2 q3 (by omega) (okSh_at k8)) mlX9_94 (by decide) h2.1 rfl rfl rfl (Nat.le_of_ble_eq_true rfl) ⟨Nat.le_refl _, Nat.le_refl _⟩ dX9_passTick_8 (fun v1 E2 hP => ?_)
  obtain ⟨rfl, rfl⟩ := hP
  rw [hra]
  refine v_istore_n (pc := 11) cx rfl (sa1 rfl) dX9_passTick_11 ?_
  refine v_aload_n (pc := 12) cx rfl ga0 dX9_passTick_12 ?_
  refine v_dup (pc := 13) cx rfl dX9_passTick_13 ?_
  refine v_getfield (pc := 14) cx flX9_87 (by assumption) gf8 dX9_passTick_14 ?_
  refine v_iload_n (pc := 17) cx rfl ga1 dX9_passTick_17 ?_
  refine v_iadd (pc := 18) cx dX9_passTick_18 ?_
  refine v_putfield (pc := 19) cx fpX9_87 h0 ⟨rfl, rfl⟩ pf8 dX9_passTick_19 (fun E19 hE19 hF19 => ?_)
  have hF19' : Out _ E19 o (o + 1) := fun j hj => hF19 j (by omega)
  replace h0 := hE19
  replace h2 := h2.out (hF19') (by omega)
  replace h6 := h6.out (hF19') (by omega)
  replace h7 := h7.out (hF19') (by omega)
  replace h1 := ((hF19') _ (by omega)).trans h1
  replace h3 := ((hF19') _ (by omega)).trans h3
  replace h4 := ((hF19') _ (by omega)).trans h4
  replace h5 := ((hF19') _ (by omega)).trans h5
  replace hFr : Out _ _ _ _ := fun j hj => ((hF19') j (by omega)).trans (hFr j hj)
  refine v_aload_n (pc := 22) cx rfl ga0 dX9_passTick_22 ?_
  refine v_getfield (pc := 23) cx flX9_25 (by assumption) gf2 dX9_passTick_23 ?_
  refine v_iload_n (pc := 26) cx rfl ga1 dX9_passTick_26 ?_
  refine v_aload_n (pc := 27) cx rfl ga0 dX9_passTick_27 ?_
  refine v_getfield (pc := 28) cx flX9_9 (by assumption) gf0 dX9_passTick_28 ?_
  refine v_iconst (pc := 31) cx dX9_passTick_31 ?_
  refine v_iaload (pc := 32) cx (2) (by assumption) (by omega) dX9_passTick_32 ?_
  refine v_aload_n (pc := 33) cx rfl ga0 dX9_passTick_33 ?_
  refine v_getfield (pc := 34) cx flX9_9 (by assumption) gf0 dX9_passTick_34 ?_
  refine v_iconst (pc := 37) cx dX9_passTick_37 ?_
  refine v_iaload (pc := 38) cx (3) (by assumption) (by omega) dX9_passTick_38 ?_
  rw [a2, a3]
  refine v_callVI (pc := 39) cx hR (c_Fi_passTick _ _ _ _ h3 (by omega)) mlX9_98 (by decide) (by assumption) rfl rfl rfl (Nat.le_of_ble_eq_true rfl) ⟨Nat.le_refl _, Nat.le_refl _⟩ dX9_passTick_39 (fun v1 E3 hP => ?_)
  obtain ⟨rfl, hP1, hF⟩ := hP
  replace h3 := hP1
  replace h2 := h2.out (hF) (by omega)
  replace h6 := h6.out (hF) (by omega)
  replace h7 := h7.out (hF) (by omega)
  replace h0 := ((hF) _ (by omega)).trans h0
  replace h1 := ((hF) _ (by omega)).trans h1
  replace h4 := ((hF) _ (by omega)).trans h4
  replace h5 := ((hF) _ (by omega)).trans h5
  replace hFr : Out _ _ _ _ := fun j hj => ((hF) j (by omega)).trans (hFr j hj)
  generalize hleft : rain - fTaken rain (s 13) (s 1) = left
  have fin : ∀ (E' : Wd) (nm' : Nat) (t' p' v' : Nat → Int) (B' : BT) (tip : Int), -1 ≤ tip → tip ≤ 100000000 → tip = tkR s rain → B' = (bS left (if rain = 0 then 1 else 0) (s 11) (s 12) (s 15) (s 2, s 3, s 7, s 8, s 9, bd)) → lst t' p' v' nm' = (if tip = -1 then lst t p v nm else addMk (lst t p v nm) (s 0, plG (lst2 gf gs ng) (s 5) (s 16), tip)) → nm' ≤ 60 →
      E' o = E3 o → E' (o + 1) = E3 (o + 1) → rSh (fG X) E' (o + 2) n b l r → E' (o + 6) = E3 (o + 6) → E' (o + 7) = some (oBk B') → E' (o + 8) = E3 (o + 8) → rGe (fG X) E' (o + 9) ng gf gs → rMk (fG X) E' (o + 12) nm' t' p' v' → Out E2 E' o (o + 16) →
      V X E' (nh, 0, 0) 100 [some (.ref (gb (fG X) + o)), some (.int (iI rain)), some (.int (iI left)), some (.int (iI tip))] [] := by
    intro E' nm' t' p' v' B' tip ht1 ht2 htip hB hls hnm g0 g1 h2 g3 h4 g5 h6 h7 hFr
    replace h0 := g0.trans h0
    replace h1 := g1.trans h1
    replace h3 := g3.trans h3
    replace h5 := g5.trans h5
    refine v_aload_n (pc := 100) cx rfl ga0 dX9_passTick_100 ?_
    refine v_getfield (pc := 101) cx flX9_39 (by assumption) gf4 dX9_passTick_101 ?_
    refine v_callVV (pc := 104) cx hR (c_Cl_passTick _ _ _ _ h5 k4) mlX9_112 (by decide) (by assumption) rfl rfl rfl (Nat.le_of_ble_eq_true rfl) ⟨Nat.le_refl _, Nat.le_refl _⟩ dX9_passTick_104 (fun E4 hP => ?_)
    obtain ⟨hP1, hF⟩ := hP
    replace h5 := hP1
    replace h2 := h2.out (hF) (by omega)
    replace h6 := h6.out (hF) (by omega)
    replace h7 := h7.out (hF) (by omega)
    replace h0 := ((hF) _ (by omega)).trans h0
    replace h1 := ((hF) _ (by omega)).trans h1
    replace h3 := ((hF) _ (by omega)).trans h3
    replace h4 := ((hF) _ (by omega)).trans h4
    replace hFr : Out _ _ _ _ := fun j hj => ((hF) j (by omega)).trans (hFr j hj)
    refine v_aload_n (pc := 107) cx rfl ga0 dX9_passTick_107 ?_
    refine v_dup (pc := 108) cx rfl dX9_passTick_108 ?_
    refine v_getfield (pc := 109) cx flX9_83 (by assumption) gf7 dX9_passTick_109 ?_
    refine v_iconst (pc := 112) cx dX9_passTick_112 ?_
    refine v_iadd (pc := 113) cx dX9_passTick_113 ?_
    refine v_putfield (pc := 114) cx fpX9_83 h0 ⟨rfl, rfl⟩ pf7 dX9_passTick_114 (fun E114 hE114 hF114 => ?_)
    have hF114' : Out _ E114 o (o + 1) := fun j hj => hF114 j (by omega)
    replace h0 := hE114
    replace h2 := h2.out (hF114') (by omega)
    replace h6 := h6.out (hF114') (by omega)
    replace h7 := h7.out (hF114') (by omega)
    replace h1 := ((hF114') _ (by omega)).trans h1
    replace h3 := ((hF114') _ (by omega)).trans h3
    replace h4 := ((hF114') _ (by omega)).trans h4
    replace h5 := ((hF114') _ (by omega)).trans h5
    replace hFr : Out _ _ _ _ := fun j hj => ((hF114') j (by omega)).trans (hFr j hj)
    refine v_aload_n (pc := 117) cx rfl ga0 dX9_passTick_117 ?_
    refine v_getfield (pc := 118) cx flX9_18 (by assumption) gf1 dX9_passTick_118 ?_
    refine v_aload_n (pc := 121) cx rfl ga0 dX9_passTick_121 ?_
    refine v_getfield (pc := 122) cx flX9_83 (by assumption) gf7 dX9_passTick_122 ?_
    refine v_callVV (pc := 125) cx hR (c_Sh_removeEnded _ _ _ _ h2 q3 (by omega) (fun j hj => ⟨(okSh_at k8 j hj).1, (okSh_at k8 j hj).2.1⟩)) mlX9_114 (by decide) h2.1 rfl rfl rfl (Nat.le_of_ble_eq_true rfl) ⟨Nat.le_refl _, Nat.le_refl _⟩ dX9_passTick_125 (fun E5 hP => ?_)
    obtain ⟨⟨n', b', l', r', h2, hlf, hn'⟩, hF⟩ := hP
    replace h6 := h6.out (hF) (by omega)
    replace h7 := h7.out (hF) (by omega)
    replace h0 := ((hF) _ (by omega)).trans h0
    replace h1 := ((hF) _ (by omega)).trans h1
    replace h3 := ((hF) _ (by omega)).trans h3
    replace h4 := ((hF) _ (by omega)).trans h4
    replace h5 := ((hF) _ (by omega)).trans h5
    replace hFr : Out _ _ _ _ := fun j hj => ((hF) j (by omega)).trans (hFr j hj)
    have hres : isS (fG X) E5 o (tick (s, lst b l r n, lst2 gf gs ng, lst t p v nm)) := by
      refine ⟨st, n', b', l', r', _, _, B', _, _, ng, gf, gs, nm', t', p', v', _, _, ⟨h0, h1, h2, h3, h4, h5, h6, h7⟩, fun j hj => ?_, ?_, by omega, ?_, ?_, ?_, ?_, ⟨rfl, q8n⟩, ⟨?_, hnm⟩, ?_, ?_⟩
      · rw [q1 j hj]
        show s (11 + j) = tkS s _ (11 + j)
        rw [show 11 + j = j + 11 by omega]
        rfl
      · rw [hlf]; rfl
      · show _ = s 1 + fTaken (tkRain _) (s 13) (s 1) - fGone (tkRain _) (s 13) (s 1) (s 14)
        rw [hrain]
      · show B'.1 = (tkB s (tkRain _)).1 ∧ B'.2.1 = (tkB s (tkRain _)).2.1 ∧ B'.2.2.1 = (tkB s (tkRain _)).2.2.1 ∧ B'.2.2.2.1 = (tkB s (tkRain _)).2.2.2.1 ∧ B'.2.2.2.2.1 = (tkB s (tkRain _)).2.2.2.2.1 ∧ _ + B'.2.2.2.2.2 = s 10 + fGone (tkRain _) (s 13) (s 1) (s 14) + (tkB s (tkRain _)).2.2.2.2.2
        rw [hrain, hB, bS_dr]
        unfold tkB
        rw [hleft]
        refine ⟨rfl, rfl, rfl, rfl, rfl, ?_⟩
        simp only
        omega
      · rfl
      · rfl
      · rw [hls]
        show _ = (if tkR s (tkRain _) = -1 then _ else addMk _ (s 0, _, tkR s (tkRain _)))
        rw [hrain, htip]
      · rfl
      · show _ = s 6 + tkRain _
        rw [hrain]
    have htip2 : tkTip (s, lst b l r n, lst2 gf gs ng, lst t p v nm) = tip := by
      show tkR s (tkRain _) = tip
      rw [hrain, htip]
    refine v_iload_n (pc := 128) cx rfl ga3 dX9_passTick_128 ?_
    refine v_iconst (pc := 129) cx dX9_passTick_129 ?_
    refine v_icmp_eq (pc := 130) cx 137 dX9_passTick_130 rfl (by omega) (fun c130 => ?_) (fun c130 => ?_)
    · refine v_iconst (pc := 137) cx dX9_passTick_137 ?_
      refine v_ireturn (pc := 138) cx hI rfl ?_ dX9_passTick_138
      exact ⟨Or.inr ⟨rfl, htip2.trans c130⟩, hres, hFr⟩
    · refine v_iconst (pc := 133) cx dX9_passTick_133 ?_
      refine v_goto (pc := 134) cx 138 dX9_passTick_134 rfl ?_
      refine v_ireturn (pc := 138) cx hI rfl ?_ dX9_passTick_138
      exact ⟨Or.inl ⟨rfl, fun q => c130 (htip2.symm.trans q)⟩, hres, hFr⟩
  have mid : ∀ d : Int, d = (if rain = 0 then 1 else 0) → V X E3 (nh, 0, 0) 57 [some (.ref (gb (fG X) + o)), some (.int (iI rain)), some (.int (iI left)), none] [.int (iI d), .int (iI left), .ref (gb (fG X) + (o + 7))] := by
    intro d hd
    have hd2 : d = 0 ∨ d = 1 := by rw [hd]; split <;> omega
    refine v_aload_n (pc := 57) cx rfl ga0 dX9_passTick_57 ?_
    refine v_getfield (pc := 58) cx flX9_9 (by assumption) gf0 dX9_passTick_58 ?_
    refine v_iconst (pc := 61) cx dX9_passTick_61 ?_
    refine v_iaload (pc := 62) cx (0) (by assumption) (by omega) dX9_passTick_62 ?_
    refine v_aload_n (pc := 63) cx rfl ga0 dX9_passTick_63 ?_
    refine v_getfield (pc := 64) cx flX9_9 (by assumption) gf0 dX9_passTick_64 ?_
    refine v_iconst (pc := 67) cx dX9_passTick_67 ?_
    refine v_iaload (pc := 68) cx (1) (by assumption) (by omega) dX9_passTick_68 ?_
    refine v_aload_n (pc := 69) cx rfl ga0 dX9_passTick_69 ?_
    refine v_getfield (pc := 70) cx flX9_9 (by assumption) gf0 dX9_passTick_70 ?_
    refine v_iconst (pc := 73) cx dX9_passTick_73 ?_
    refine v_iaload (pc := 74) cx (4) (by assumption) (by omega) dX9_passTick_74 ?_
    rw [a0, a1, a4]
    refine v_callVI (pc := 75) cx hR (c_Bk_passTick _ _ _ _ h4 (by simp only; omega)) mlX9_101 (by decide) (by assumption) rfl rfl rfl (Nat.le_of_ble_eq_true rfl) ⟨Nat.le_refl _, Nat.le_refl _⟩ dX9_passTick_75 (fun v1 E4 hP => ?_)
    obtain ⟨rfl, hP1, hF⟩ := hP
    have hkeep : Out E3 E4 (o + 7) (o + 8) := hF
    replace h4 := hP1
    have htr : bR left d (s 11) (s 15) (s 2, s 3, s 7, s 8, s 9, bd) = tkR s rain := by rw [bR_dr, hd]; unfold tkR; rw [hleft]
    have hbd : -1 ≤ tkR s rain ∧ tkR s rain ≤ 100000000 := by
      rw [← htr]
      unfold bR
      simp only
      split
      · omega
      · have : 0 ≤ bGone (s 2) left d (s 15) := by unfold bGone; split <;> omega
        split <;> omega
    rw [htr]
    refine v_istore_n (pc := 78) cx rfl (sa3 rfl) dX9_passTick_78 ?_
    refine v_iload_n (pc := 79) cx rfl ga3 dX9_passTick_79 ?_
    refine v_iconst (pc := 80) cx dX9_passTick_80 ?_
    refine v_icmp_eq (pc := 81) cx 100 dX9_passTick_81 rfl (by omega) (fun c81 => ?_) (fun c81 => ?_)
    · refine fin E4 nm t p v _ (tkR s rain) hbd.1 hbd.2 rfl (by rw [hd]) ?_ q9n (hkeep _ (by omega)) (hkeep _ (by omega)) (h2.out hF (by omega)) (hkeep _ (by omega)) h4 (hkeep _ (by omega)) (h6.out hF (by omega)) (h7.out hF (by omega)) (fun j hj => (hF j (by omega)).trans (hFr j hj))
      rw [if_pos c81]
    · have h0k := (hkeep o (by omega)).trans h0
      refine v_aload_n (pc := 84) cx rfl ga0 dX9_passTick_84 ?_
      refine v_getfield (pc := 85) cx flX9_53 (by assumption) gf6 dX9_passTick_85 ?_
      refine v_aload_n (pc := 88) cx rfl ga0 dX9_passTick_88 ?_
      refine v_getfield (pc := 89) cx flX9_83 (by assumption) gf7 dX9_passTick_89 ?_
      refine v_aload_n (pc := 92) cx rfl ga0 dX9_passTick_92 ?_
      refine v_callVI (pc := 93) cx hR (c_St_drumPlace _ _ _ _ ⟨h0k, (hkeep _ (by omega)).trans h1, h2.out hF (by omega), (hkeep _ (by omega)).trans h3, h4, (hkeep _ (by omega)).trans h5, h6.out hF (by omega), h7.out hF (by omega)⟩ q8n (fun j hj => (okGe_at k9 j hj).2) (by omega)) mlX9_104 (by decide) (by assumption) rfl rfl rfl (Nat.le_of_ble_eq_true rfl) ⟨Nat.le_refl _, Nat.le_refl _⟩ dX9_passTick_93 (fun v5 E6 hP => ?_)
      obtain ⟨rfl, rfl⟩ := hP
      rw [a5]
      refine v_iload_n (pc := 96) cx rfl ga3 dX9_passTick_96 ?_
      refine v_callVV (pc := 97) cx hR (c_Mk_append _ _ _ _ (h7.out hF (by omega)) q9n) mlX9_108 (by decide) (h7.out hF (by omega)).1 rfl rfl rfl (Nat.le_of_ble_eq_true rfl) ⟨Nat.le_refl _, Nat.le_refl _⟩ dX9_passTick_97 (fun E7 hP => ?_)
      obtain ⟨⟨m', t', p', v', g7, hls, hm'⟩, hF2⟩ := hP
      refine fin E7 m' t' p' v' _ (tkR s rain) hbd.1 hbd.2 rfl (by rw [hd]) ?_ hm' ((hF2 _ (by omega)).trans (hkeep _ (by omega))) ((hF2 _ (by omega)).trans (hkeep _ (by omega))) ((h2.out hF (by omega)).out hF2 (by omega)) ((hF2 _ (by omega)).trans (hkeep _ (by omega))) ((hF2 _ (by omega)).trans h4) ((hF2 _ (by omega)).trans (hkeep _ (by omega))) ((h6.out hF (by omega)).out hF2 (by omega)) g7 (fun j hj => (hF2 j (by omega)).trans ((hF j (by omega)).trans (hFr j hj)))
      rw [if_neg c81, hls, plG_lst]
  refine v_istore_n (pc := 42) cx rfl (sa2 rfl) dX9_passTick_42 ?_
  refine v_aload_n (pc := 43) cx rfl ga0 dX9_passTick_43 ?_
  refine v_getfield (pc := 44) cx flX9_32 (by assumption) gf3 dX9_passTick_44 ?_
  refine v_iload_n (pc := 47) cx rfl ga2 dX9_passTick_47 ?_
  refine v_iload_n (pc := 48) cx rfl ga1 dX9_passTick_48 ?_
  refine v_if_ne (pc := 49) cx 56 dX9_passTick_49 rfl (by omega) (fun c49 => ?_) (fun c49 => ?_)
  · refine v_iconst (pc := 56) cx dX9_passTick_56 ?_
    exact mid 0 (by rw [if_neg c49])
  · refine v_iconst (pc := 52) cx dX9_passTick_52 ?_
    refine v_goto (pc := 53) cx 57 dX9_passTick_53 rfl ?_
    exact mid 1 (by rw [if_pos c49])
set_option maxRecDepth 100000 in
set_option maxHeartbeats 4000000 in
theorem c_St_passTicks (lc : Launch) (G : Gc) (E : Wd) (nh : Nat) {o k : Nat} {σ : Sg} (h : isS G E o σ) (hk : ok σ) (ht : σ.1 0 + k ≤ 5000) (hk1 : k ≤ 1000) : CI lc G 4 yX9_passTicks cX9_passTicks 4 .int [.ref (gb G + o), .int (iI (k : Int))] E nh 0 0 (fun v E' => v = (tips σ k : Int) ∧ isS G E' o (ticks σ k) ∧ Out E E' o (o + 16)) := by
  refine CI.mk (by decide +kernel) rfl (Nat.le_of_ble_eq_true rfl) ?_
  intro X hG hL cx hR hI
  subst hG; subst hL
  show V X E (nh, 0, 0) 0 [some (.ref (gb (fG X) + o)), some (.int (iI (k : Int))), none, none] []
  have loop : ∀ (d i : Nat) (E' : Wd), i ≤ k → k - i < d → isS (fG X) E' o (ticks σ i) → Out E E' o (o + 16) → V X E' (nh, 0, 0) 4 [some (.ref (gb (fG X) + o)), some (.int (iI (k : Int))), some (.int (iI (tips σ i : Int))), some (.int (iI (i : Int)))] [] := by
    intro d
    induction d with
    | zero => intro i E' hi hd; omega
    | succ d ih =>
      intro i E' hi hd h hFr
      refine v_iload_n (pc := 4) cx rfl ga3 dX9_passTicks_4 ?_
      refine v_iload_n (pc := 5) cx rfl ga1 dX9_passTicks_5 ?_
      refine v_icmp_ge (pc := 6) cx 25 dX9_passTicks_6 rfl (by omega) (fun c6 => ?_) (fun c6 => ?_)
      · refine v_iload_n (pc := 25) cx rfl ga2 dX9_passTicks_25 ?_
        refine v_ireturn (pc := 26) cx hI rfl ?_ dX9_passTicks_26
        have e : i = k := by omega
        subst e
        exact ⟨rfl, h, hFr⟩
      · have h00 := h
        obtain ⟨_, _, _, _, _, _, _, _, _, _, _, _, _, _, _, _, _, _, _, ⟨h0, -⟩, -⟩ := h00
        refine v_aload_n (pc := 9) cx rfl ga0 dX9_passTicks_9 ?_
        refine v_callVI (pc := 10) cx hR (c_St_passTick _ _ _ _ h (ok_ticks hk i (by omega)) (by rw [ticks_0]; omega)) mlX9_90 (by decide) (by assumption) rfl rfl rfl (Nat.le_of_ble_eq_true rfl) ⟨Nat.le_refl _, Nat.le_refl _⟩ dX9_passTicks_10 (fun v1 E2 hP => ?_)
        obtain ⟨hv, h2, hF⟩ := hP
        refine v_if_eq (pc := 13) cx 19 dX9_passTicks_13 rfl (by omega) (fun c13 => ?_) (fun c13 => ?_)
        · refine v_iinc (pc := 19) cx ga3 (sa3 rfl) dX9_passTicks_19 ?_
          refine v_goto (pc := 22) cx 4 dX9_passTicks_22 rfl ?_
          have e : tips σ (i + 1) = tips σ i := by simp only [tips]; rw [if_pos (by omega), Nat.add_zero]
          rw [← e]
          exact ih (i + 1) E2 (by omega) (by omega) h2 (fun j hj => (hF j hj).trans (hFr j hj))
        · refine v_iinc (pc := 16) cx ga2 (sa2 rfl) dX9_passTicks_16 ?_
          refine v_iinc (pc := 19) cx ga3 (sa3 rfl) dX9_passTicks_19 ?_
          refine v_goto (pc := 22) cx 4 dX9_passTicks_22 rfl ?_
          have e : tips σ (i + 1) = tips σ i + 1 := by simp only [tips]; rw [if_neg (by omega)]
          rw [show ((tips σ i : Int) + 1) = ((tips σ i + 1 : Nat) : Int) from rfl, ← e]
          exact ih (i + 1) E2 (by omega) (by omega) h2 (fun j hj => (hF j hj).trans (hFr j hj))
  refine v_iconst (pc := 0) cx dX9_passTicks_0 ?_
  refine v_istore_n (pc := 1) cx rfl (sa2 rfl) dX9_passTicks_1 ?_
  refine v_iconst (pc := 2) cx dX9_passTicks_2 ?_
  refine v_istore_n (pc := 3) cx rfl (sa3 rfl) dX9_passTicks_3 ?_
  exact loop (k + 1) 0 E (by omega) (by omega) h (fun _ _ => rfl)
end
section
theorem isS.obj {G : Gc} {E : Wd} {o : Nat} {σ : Sg} (h : isS G E o σ) : ∃ fs, E o = some (.inr (9, fs)) := by
  obtain ⟨_, _, _, _, _, _, _, _, _, _, _, _, _, _, _, _, _, _, _, ⟨h0, -⟩, -⟩ := h
  exact ⟨_, h0⟩
set_option maxRecDepth 100000 in
set_option maxHeartbeats 4000000 in
theorem c_St_accountOf (lc : Launch) (G : Gc) (E : Wd) (nh : Nat) {o : Nat} {σ : Sg} {w : Int} (h : isS G E o σ) (hw : 0 ≤ w ∧ w ≤ 4) : CI lc G 0 yX9_accountOf cX9_accountOf 2 .int [.ref (gb G + o), .int (iI w)] E nh 0 0 (fun v E' => v = σ.1 (6 + w.toNat) ∧ E' = E) := by
  refine CI.mk (by decide +kernel) rfl (Nat.le_of_ble_eq_true rfl) ?_
  intro X hG hL cx hR hI
  subst hG; subst hL
  show V X E (nh, 0, 0) 0 [some (.ref (gb (fG X) + o)), some (.int (iI w))] []
  obtain ⟨st, n, b, l, r, fc, fd, B, cr, cn, ng, gf, gs, nm, t, p, v, tk, fell, ⟨h0, h1, h2, h3, h4, h5, h6, h7⟩, q1, q2, q3, q4, ⟨q51, q52, q53, q54, q55, q56⟩, q6, q7, q8, q9, q10, q11⟩ := h
  refine v_iload_n (pc := 0) cx rfl ga1 dX9_accountOf_0 ?_
  rcases (show w = 0 ∨ w = 1 ∨ w = 2 ∨ w = 3 ∨ w = 4 by omega) with rfl | rfl | rfl | rfl | rfl
  · refine v_tableIn (pc := 1) cx 32 dX9_accountOf_1 (by omega) rfl rfl ?_
    refine v_aload_n (pc := 32) cx rfl ga0 dX9_accountOf_32 ?_
    refine v_getfield (pc := 33) cx flX9_87 (by assumption) gf8 dX9_accountOf_33 ?_
    refine v_ireturn (pc := 36) cx hI rfl ?_ dX9_accountOf_36
    exact ⟨q11, rfl⟩
  · refine v_tableIn (pc := 1) cx 37 dX9_accountOf_1 (by omega) rfl rfl ?_
    refine v_aload_n (pc := 37) cx rfl ga0 dX9_accountOf_37 ?_
    refine v_getfield (pc := 38) cx flX9_32 (by assumption) gf3 dX9_accountOf_38 ?_
    refine v_getfield (pc := 41) cx flX9_125 (by assumption) gf2 dX9_accountOf_41 ?_
    refine v_ireturn (pc := 44) cx hI rfl ?_ dX9_accountOf_44
    exact ⟨q53, rfl⟩
  · refine v_tableIn (pc := 1) cx 45 dX9_accountOf_1 (by omega) rfl rfl ?_
    refine v_aload_n (pc := 45) cx rfl ga0 dX9_accountOf_45 ?_
    refine v_getfield (pc := 46) cx flX9_32 (by assumption) gf3 dX9_accountOf_46 ?_
    refine v_getfield (pc := 49) cx flX9_128 (by assumption) gf3 dX9_accountOf_49 ?_
    refine v_ireturn (pc := 52) cx hI rfl ?_ dX9_accountOf_52
    exact ⟨q54, rfl⟩
  · refine v_tableIn (pc := 1) cx 53 dX9_accountOf_1 (by omega) rfl rfl ?_
    refine v_aload_n (pc := 53) cx rfl ga0 dX9_accountOf_53 ?_
    refine v_getfield (pc := 54) cx flX9_32 (by assumption) gf3 dX9_accountOf_54 ?_
    refine v_getfield (pc := 57) cx flX9_131 (by assumption) gf4 dX9_accountOf_57 ?_
    refine v_ireturn (pc := 60) cx hI rfl ?_ dX9_accountOf_60
    exact ⟨q55, rfl⟩
  · refine v_tableOut (pc := 1) cx 61 dX9_accountOf_1 (by omega) rfl ?_
    refine v_aload_n (pc := 61) cx rfl ga0 dX9_accountOf_61 ?_
    refine v_getfield (pc := 62) cx flX9_25 (by assumption) gf2 dX9_accountOf_62 ?_
    refine v_getfield (pc := 65) cx flX9_134 (by assumption) gf1 dX9_accountOf_65 ?_
    refine v_aload_n (pc := 68) cx rfl ga0 dX9_accountOf_68 ?_
    refine v_getfield (pc := 69) cx flX9_32 (by assumption) gf3 dX9_accountOf_69 ?_
    refine v_getfield (pc := 72) cx flX9_137 (by assumption) gf5 dX9_accountOf_72 ?_
    refine v_iadd (pc := 75) cx dX9_accountOf_75 ?_
    refine v_ireturn (pc := 76) cx hI rfl ?_ dX9_accountOf_76
    exact ⟨q56, rfl⟩
set_option maxRecDepth 100000 in
set_option maxHeartbeats 4000000 in
theorem c_St_copyFrom (lc : Launch) (G : Gc) (E : Wd) (nh : Nat) {o oo : Nat} {σ σ' : Sg} (h : isS G E o σ) (h' : isS G E oo σ') (hd : o + 16 ≤ oo ∨ oo + 16 ≤ o) : CV lc G 3 yX9_copyFrom cX9_copyFrom 2 [.ref (gb G + o), .ref (gb G + oo)] E nh 0 0 (fun E' => isS G E' o σ' ∧ Out E E' o (o + 16)) := by
  refine CV.mk (by decide +kernel) rfl (Nat.le_of_ble_eq_true rfl) ?_
  intro X hG hL cx hR hI hini
  subst hG; subst hL
  show V X E (nh, 0, 0) 0 [some (.ref (gb (fG X) + o)), some (.ref (gb (fG X) + oo))] []
  obtain ⟨st, n, b, l, r, fc, fd, B, cr, cn, ng, gf, gs, nm, t, p, v, tk, fell, ⟨h0, h1, h2, h3, h4, h5, h6, h7⟩, -⟩ := h
  obtain ⟨st', n', b', l', r', fc', fd', B', cr', cn', ng', gf', gs', nm', t', p', v', tk', fell', ⟨g0, g1, g2, g3, g4, g5, g6, g7⟩, q1, q2, q3, q4, q5, q6, q7, q8, q9, q10, q11⟩ := h'
  have hFr : Out E E o (o + 16) := fun j hj => rfl
  refine v_aload_n (pc := 0) cx rfl ga1 dX9_copyFrom_0 ?_
  refine v_getfield (pc := 1) cx flX9_9 (by assumption) gf0 dX9_copyFrom_1 ?_
  refine v_aload_n (pc := 4) cx rfl ga0 dX9_copyFrom_4 ?_
  refine v_getfield (pc := 5) cx flX9_9 (by assumption) gf0 dX9_copyFrom_5 ?_
  refine v_callSV (pc := 8) cx hR (c_copyRow _ _ _ _ (by omega) g1 h1) mlX9_60 (by decide) rfl (Nat.le_of_ble_eq_true rfl) ⟨Nat.le_refl _, Nat.le_refl _⟩ dX9_copyFrom_8 (fun E1 hP => ?_)
  obtain ⟨h1, hF0⟩ := hP
  have hF : Out _ E1 (o + 1) (o + 2) := fun j hj => hF0 j (by omega)
  replace h2 := h2.out (hF) (by omega)
  replace h6 := h6.out (hF) (by omega)
  replace h7 := h7.out (hF) (by omega)
  replace g2 := g2.out (hF) (by omega)
  replace g6 := g6.out (hF) (by omega)
  replace g7 := g7.out (hF) (by omega)
  replace h0 := ((hF) _ (by omega)).trans h0
  replace h3 := ((hF) _ (by omega)).trans h3
  replace h4 := ((hF) _ (by omega)).trans h4
  replace h5 := ((hF) _ (by omega)).trans h5
  replace g0 := ((hF) _ (by omega)).trans g0
  replace g1 := ((hF) _ (by omega)).trans g1
  replace g3 := ((hF) _ (by omega)).trans g3
  replace g4 := ((hF) _ (by omega)).trans g4
  replace g5 := ((hF) _ (by omega)).trans g5
  replace hFr : Out _ _ _ _ := fun j hj => ((hF) j (by omega)).trans (hFr j hj)
  refine v_aload_n (pc := 11) cx rfl ga0 dX9_copyFrom_11 ?_
  refine v_getfield (pc := 12) cx flX9_18 (by assumption) gf1 dX9_copyFrom_12 ?_
  refine v_aload_n (pc := 15) cx rfl ga1 dX9_copyFrom_15 ?_
  refine v_getfield (pc := 16) cx flX9_18 (by assumption) gf1 dX9_copyFrom_16 ?_
  refine v_callVV (pc := 19) cx hR (c_Sh_copyFrom _ _ _ _ h2 g2 (by omega)) mlX9_64 (by decide) h2.1 rfl rfl rfl (Nat.le_of_ble_eq_true rfl) ⟨Nat.le_refl _, Nat.le_refl _⟩ dX9_copyFrom_19 (fun E2 hP => ?_)
  obtain ⟨⟨b2, l2, r2, h2, e2⟩, hF⟩ := hP
  replace h6 := h6.out (hF) (by omega)
  replace h7 := h7.out (hF) (by omega)
  replace g2 := g2.out (hF) (by omega)
  replace g6 := g6.out (hF) (by omega)
  replace g7 := g7.out (hF) (by omega)
  replace h0 := ((hF) _ (by omega)).trans h0
  replace h1 := ((hF) _ (by omega)).trans h1
  replace h3 := ((hF) _ (by omega)).trans h3
  replace h4 := ((hF) _ (by omega)).trans h4
  replace h5 := ((hF) _ (by omega)).trans h5
  replace g0 := ((hF) _ (by omega)).trans g0
  replace g1 := ((hF) _ (by omega)).trans g1
  replace g3 := ((hF) _ (by omega)).trans g3
  replace g4 := ((hF) _ (by omega)).trans g4
  replace g5 := ((hF) _ (by omega)).trans g5
  replace hFr : Out _ _ _ _ := fun j hj => ((hF) j (by omega)).trans (hFr j hj)
  refine v_aload_n (pc := 22) cx rfl ga0 dX9_copyFrom_22 ?_
  refine v_getfield (pc := 23) cx flX9_25 (by assumption) gf2 dX9_copyFrom_23 ?_
  refine v_aload_n (pc := 26) cx rfl ga1 dX9_copyFrom_26 ?_
  refine v_getfield (pc := 27) cx flX9_25 (by assumption) gf2 dX9_copyFrom_27 ?_
  refine v_callVV (pc := 30) cx hR (c_Fi_copyFrom _ _ _ _ h3 g3 (by omega)) mlX9_68 (by decide) (by assumption) rfl rfl rfl (Nat.le_of_ble_eq_true rfl) ⟨Nat.le_refl _, Nat.le_refl _⟩ dX9_copyFrom_30 (fun E3 hP => ?_)
  obtain ⟨h3, hF⟩ := hP
  replace h2 := h2.out (hF) (by omega)
  replace h6 := h6.out (hF) (by omega)
  replace h7 := h7.out (hF) (by omega)
  replace g2 := g2.out (hF) (by omega)
  replace g6 := g6.out (hF) (by omega)
  replace g7 := g7.out (hF) (by omega)
  replace h0 := ((hF) _ (by omega)).trans h0
  replace h1 := ((hF) _ (by omega)).trans h1
  replace h4 := ((hF) _ (by omega)).trans h4
  replace h5 := ((hF) _ (by omega)).trans h5
  replace g0 := ((hF) _ (by omega)).trans g0
  replace g1 := ((hF) _ (by omega)).trans g1
  replace g3 := ((hF) _ (by omega)).trans g3
  replace g4 := ((hF) _ (by omega)).trans g4
  replace g5 := ((hF) _ (by omega)).trans g5
  replace hFr : Out _ _ _ _ := fun j hj => ((hF) j (by omega)).trans (hFr j hj)
  refine v_aload_n (pc := 33) cx rfl ga0 dX9_copyFrom_33 ?_
  refine v_getfield (pc := 34) cx flX9_32 (by assumption) gf3 dX9_copyFrom_34 ?_
  refine v_aload_n (pc := 37) cx rfl ga1 dX9_copyFrom_37 ?_
  refine v_getfield (pc := 38) cx flX9_32 (by assumption) gf3 dX9_copyFrom_38 ?_
  refine v_callVV (pc := 41) cx hR (c_Bk_copyFrom _ _ _ _ h4 g4 (by omega)) mlX9_71 (by decide) (by assumption) rfl rfl rfl (Nat.le_of_ble_eq_true rfl) ⟨Nat.le_refl _, Nat.le_refl _⟩ dX9_copyFrom_41 (fun E4 hP => ?_)
  obtain ⟨h4, hF⟩ := hP
  replace h2 := h2.out (hF) (by omega)
  replace h6 := h6.out (hF) (by omega)
  replace h7 := h7.out (hF) (by omega)
  replace g2 := g2.out (hF) (by omega)
  replace g6 := g6.out (hF) (by omega)
  replace g7 := g7.out (hF) (by omega)
  replace h0 := ((hF) _ (by omega)).trans h0
  replace h1 := ((hF) _ (by omega)).trans h1
  replace h3 := ((hF) _ (by omega)).trans h3
  replace h5 := ((hF) _ (by omega)).trans h5
  replace g0 := ((hF) _ (by omega)).trans g0
  replace g1 := ((hF) _ (by omega)).trans g1
  replace g3 := ((hF) _ (by omega)).trans g3
  replace g4 := ((hF) _ (by omega)).trans g4
  replace g5 := ((hF) _ (by omega)).trans g5
  replace hFr : Out _ _ _ _ := fun j hj => ((hF) j (by omega)).trans (hFr j hj)
  refine v_aload_n (pc := 44) cx rfl ga0 dX9_copyFrom_44 ?_
  refine v_getfield (pc := 45) cx flX9_39 (by assumption) gf4 dX9_copyFrom_45 ?_
  refine v_aload_n (pc := 48) cx rfl ga1 dX9_copyFrom_48 ?_
  refine v_getfield (pc := 49) cx flX9_39 (by assumption) gf4 dX9_copyFrom_49 ?_
  refine v_callVV (pc := 52) cx hR (c_Cl_copyFrom _ _ _ _ h5 g5 (by omega)) mlX9_74 (by decide) (by assumption) rfl rfl rfl (Nat.le_of_ble_eq_true rfl) ⟨Nat.le_refl _, Nat.le_refl _⟩ dX9_copyFrom_52 (fun E5 hP => ?_)
  obtain ⟨h5, hF⟩ := hP
  replace h2 := h2.out (hF) (by omega)
  replace h6 := h6.out (hF) (by omega)
  replace h7 := h7.out (hF) (by omega)
  replace g2 := g2.out (hF) (by omega)
  replace g6 := g6.out (hF) (by omega)
  replace g7 := g7.out (hF) (by omega)
  replace h0 := ((hF) _ (by omega)).trans h0
  replace h1 := ((hF) _ (by omega)).trans h1
  replace h3 := ((hF) _ (by omega)).trans h3
  replace h4 := ((hF) _ (by omega)).trans h4
  replace g0 := ((hF) _ (by omega)).trans g0
  replace g1 := ((hF) _ (by omega)).trans g1
  replace g3 := ((hF) _ (by omega)).trans g3
  replace g4 := ((hF) _ (by omega)).trans g4
  replace g5 := ((hF) _ (by omega)).trans g5
  replace hFr : Out _ _ _ _ := fun j hj => ((hF) j (by omega)).trans (hFr j hj)
  refine v_aload_n (pc := 55) cx rfl ga0 dX9_copyFrom_55 ?_
  refine v_getfield (pc := 56) cx flX9_46 (by assumption) gf5 dX9_copyFrom_56 ?_
  refine v_aload_n (pc := 59) cx rfl ga1 dX9_copyFrom_59 ?_
  refine v_getfield (pc := 60) cx flX9_46 (by assumption) gf5 dX9_copyFrom_60 ?_
  refine v_callVV (pc := 63) cx hR (c_Ge_copyFrom _ _ _ _ h6 g6 (by omega)) mlX9_77 (by decide) h6.1 rfl rfl rfl (Nat.le_of_ble_eq_true rfl) ⟨Nat.le_refl _, Nat.le_refl _⟩ dX9_copyFrom_63 (fun E6 hP => ?_)
  obtain ⟨⟨f6, s6, h6, e6⟩, hF⟩ := hP
  replace h2 := h2.out (hF) (by omega)
  replace h7 := h7.out (hF) (by omega)
  replace g2 := g2.out (hF) (by omega)
  replace g6 := g6.out (hF) (by omega)
  replace g7 := g7.out (hF) (by omega)
  replace h0 := ((hF) _ (by omega)).trans h0
  replace h1 := ((hF) _ (by omega)).trans h1
  replace h3 := ((hF) _ (by omega)).trans h3
  replace h4 := ((hF) _ (by omega)).trans h4
  replace h5 := ((hF) _ (by omega)).trans h5
  replace g0 := ((hF) _ (by omega)).trans g0
  replace g1 := ((hF) _ (by omega)).trans g1
  replace g3 := ((hF) _ (by omega)).trans g3
  replace g4 := ((hF) _ (by omega)).trans g4
  replace g5 := ((hF) _ (by omega)).trans g5
  replace hFr : Out _ _ _ _ := fun j hj => ((hF) j (by omega)).trans (hFr j hj)
  refine v_aload_n (pc := 66) cx rfl ga0 dX9_copyFrom_66 ?_
  refine v_getfield (pc := 67) cx flX9_53 (by assumption) gf6 dX9_copyFrom_67 ?_
  refine v_aload_n (pc := 70) cx rfl ga1 dX9_copyFrom_70 ?_
  refine v_getfield (pc := 71) cx flX9_53 (by assumption) gf6 dX9_copyFrom_71 ?_
  refine v_callVV (pc := 74) cx hR (c_Mk_copyFrom _ _ _ _ h7 g7 (by omega)) mlX9_80 (by decide) h7.1 rfl rfl rfl (Nat.le_of_ble_eq_true rfl) ⟨Nat.le_refl _, Nat.le_refl _⟩ dX9_copyFrom_74 (fun E7 hP => ?_)
  obtain ⟨⟨b7, l7, r7, h7, e7⟩, hF⟩ := hP
  replace h2 := h2.out (hF) (by omega)
  replace h6 := h6.out (hF) (by omega)
  replace g2 := g2.out (hF) (by omega)
  replace g6 := g6.out (hF) (by omega)
  replace g7 := g7.out (hF) (by omega)
  replace h0 := ((hF) _ (by omega)).trans h0
  replace h1 := ((hF) _ (by omega)).trans h1
  replace h3 := ((hF) _ (by omega)).trans h3
  replace h4 := ((hF) _ (by omega)).trans h4
  replace h5 := ((hF) _ (by omega)).trans h5
  replace g0 := ((hF) _ (by omega)).trans g0
  replace g1 := ((hF) _ (by omega)).trans g1
  replace g3 := ((hF) _ (by omega)).trans g3
  replace g4 := ((hF) _ (by omega)).trans g4
  replace g5 := ((hF) _ (by omega)).trans g5
  replace hFr : Out _ _ _ _ := fun j hj => ((hF) j (by omega)).trans (hFr j hj)
  refine v_aload_n (pc := 77) cx rfl ga0 dX9_copyFrom_77 ?_
  refine v_aload_n (pc := 78) cx rfl ga1 dX9_copyFrom_78 ?_
  refine v_getfield (pc := 79) cx flX9_83 (by assumption) gf7 dX9_copyFrom_79 ?_
  refine v_putfield (pc := 82) cx fpX9_83 h0 ⟨rfl, rfl⟩ pf7 dX9_copyFrom_82 (fun E82 hE82 hF82 => ?_)
  have hF' : Out _ E82 o (o + 1) := fun j hj => hF82 j (by omega)
  replace h0 := hE82
  replace h2 := h2.out (hF') (by omega)
  replace h6 := h6.out (hF') (by omega)
  replace h7 := h7.out (hF') (by omega)
  replace g2 := g2.out (hF') (by omega)
  replace g6 := g6.out (hF') (by omega)
  replace g7 := g7.out (hF') (by omega)
  replace h1 := ((hF') _ (by omega)).trans h1
  replace h3 := ((hF') _ (by omega)).trans h3
  replace h4 := ((hF') _ (by omega)).trans h4
  replace h5 := ((hF') _ (by omega)).trans h5
  replace g0 := ((hF') _ (by omega)).trans g0
  replace g1 := ((hF') _ (by omega)).trans g1
  replace g3 := ((hF') _ (by omega)).trans g3
  replace g4 := ((hF') _ (by omega)).trans g4
  replace g5 := ((hF') _ (by omega)).trans g5
  replace hFr : Out _ _ _ _ := fun j hj => ((hF') j (by omega)).trans (hFr j hj)
  refine v_aload_n (pc := 85) cx rfl ga0 dX9_copyFrom_85 ?_
  refine v_aload_n (pc := 86) cx rfl ga1 dX9_copyFrom_86 ?_
  refine v_getfield (pc := 87) cx flX9_87 (by assumption) gf8 dX9_copyFrom_87 ?_
  refine v_putfield (pc := 90) cx fpX9_87 h0 ⟨rfl, rfl⟩ pf8 dX9_copyFrom_90 (fun E90 hE90 hF90 => ?_)
  have hF' : Out _ E90 o (o + 1) := fun j hj => hF90 j (by omega)
  replace h0 := hE90
  replace h2 := h2.out (hF') (by omega)
  replace h6 := h6.out (hF') (by omega)
  replace h7 := h7.out (hF') (by omega)
  replace h1 := ((hF') _ (by omega)).trans h1
  replace h3 := ((hF') _ (by omega)).trans h3
  replace h4 := ((hF') _ (by omega)).trans h4
  replace h5 := ((hF') _ (by omega)).trans h5
  replace hFr : Out _ _ _ _ := fun j hj => ((hF') j (by omega)).trans (hFr j hj)
  refine v_return (pc := 93) cx hI ?_ dX9_copyFrom_93
  refine ⟨⟨_, n', b2, l2, r2, _, _, _, _, _, ng', f6, s6, nm', b7, l7, r7, _, _, ⟨h0, h1, h2, h3, h4, h5, h6, h7⟩, fun j hj => ?_, ?_, q3, q4, q5, q6, q7, ⟨?_, q8.2⟩, ⟨?_, q9.2⟩, q10, q11⟩, hFr⟩
  · rw [cpyI_in hj]
    exact q1 j hj
  · rw [← q2]
    exact lst_ext (fun j hj => e2 j (by omega))
  · rw [← q8.1]
    exact lst2_ext (fun j hj => e6 j (by omega))
  · rw [← q9.1]
    exact lst_ext (fun j hj => e7 j (by omega))
/-! the history: five states, the first ones in use -/
def rHi (G : Gc) (E : Wd) (o : Nat) (m : Nat) (a : Nat → Nat) (hs : List Sg) : Prop :=
  E o = some (.inr (4, [.ref (gb G + (o + 1)), .int (iI (m : Int))])) ∧ E (o + 1) = some (AS G 5 (fun j => some (a j))) ∧ m = hs.length ∧ m ≤ 5 ∧
  (∀ j, j < 5 → ∃ k, k < 5 ∧ a j = o + 2 + 16 * k) ∧ (∀ i j, i < 5 → j < 5 → a i = a j → i = j) ∧ (∀ j, j < 5 → ∃ σ, isS G E (a j) σ) ∧ ∀ j, j < m → ∃ σ, hs[j]? = some σ ∧ isS G E (a j) σ
def isH (G : Gc) (E : Wd) (o : Nat) (hs : List Sg) : Prop := ∃ a, rHi G E o hs.length a hs
def keepH (hs : List Sg) (σ : Sg) : List Sg := (if 5 ≤ hs.length then hs.tail else hs) ++ [σ]
theorem rHi.out {G : Gc} {E E' : Wd} {o m : Nat} {a : Nat → Nat} {hs : List Sg} {x y : Nat} (h : rHi G E o m a hs) (hE : Out E E' x y) (hxy : o + 82 ≤ x ∨ y ≤ o) : rHi G E' o m a hs := by
  obtain ⟨h0, h1, h2, h3, h4, h5, h6, h7⟩ := h
  refine ⟨(hE _ (by omega)).trans h0, (hE _ (by omega)).trans h1, h2, h3, h4, h5, fun j hj => ?_, fun j hj => ?_⟩
  · obtain ⟨k, hk, e⟩ := h4 j hj
    obtain ⟨σ, hσ⟩ := h6 j hj
    exact ⟨σ, hσ.out hE (by omega)⟩
  · obtain ⟨k, hk, e⟩ := h4 j (by omega)
    obtain ⟨σ, e1, hσ⟩ := h7 j hj
    exact ⟨σ, e1, hσ.out hE (by omega)⟩
theorem isH.out {G : Gc} {E E' : Wd} {o : Nat} {hs : List Sg} {x y : Nat} (h : isH G E o hs) (hE : Out E E' x y) (hxy : o + 82 ≤ x ∨ y ≤ o) : isH G E' o hs := by
  obtain ⟨a, h⟩ := h
  exact ⟨a, h.out hE hxy⟩
set_option maxRecDepth 100000 in
set_option maxHeartbeats 4000000 in
theorem c_Hi_dropOldest (lc : Launch) (G : Gc) (E : Wd) (nh : Nat) {o : Nat} {a : Nat → Nat} {hs : List Sg} (h : rHi G E o 5 a hs) : CV lc G 0 yX4_dropOldest cX4_dropOldest 3 [.ref (gb G + o)] E nh 0 0 (fun E' => (∃ a', rHi G E' o 4 a' hs.tail) ∧ Out E E' o (o + 2)) := by
  refine CV.mk (by decide +kernel) rfl (Nat.le_of_ble_eq_true rfl) ?_
  intro X hG hL cx hR hI hini
  subst hG; subst hL
  show V X E (nh, 0, 0) 0 [some (.ref (gb (fG X) + o)), none, none] []
  obtain ⟨h0, h1, h2, h3, h4, h5, h6, h7⟩ := h
  have loop : ∀ (d i : Nat) (E' : Wd), 1 ≤ i → i ≤ 5 → 5 - i < d → E' o = E o → E' (o + 1) = some (AS (fG X) 5 (fun j => some (if j + 1 < i then a (j + 1) else a j))) → Out E E' o (o + 2) → V X E' (nh, 0, 0) 9 [some (.ref (gb (fG X) + o)), some (.ref (gb (fG X) + a 0)), some (.int (iI (i : Int)))] [] := by
    intro d
    induction d with
    | zero => intro i E' _ hi hd; omega
    | succ d ih =>
      intro i E' hi1 hi hd g0 g1 hFr
      replace g0 := g0.trans h0
      refine v_iload_n (pc := 9) cx rfl ga2 dX4_dropOldest_9 ?_
      refine v_iconst (pc := 10) cx dX4_dropOldest_10 ?_
      refine v_icmp_ge (pc := 11) cx 34 dX4_dropOldest_11 rfl (by omega) (fun c11 => ?_) (fun c11 => ?_)
      · have e : i = 5 := by omega
        subst e
        obtain ⟨k0, hk0, e0⟩ := h4 0 (by omega)
        obtain ⟨σ0, hσ0⟩ := h6 0 (by omega)
        obtain ⟨fs, hfs⟩ := (hσ0.out hFr (by omega)).obj
        refine v_aload_n (pc := 34) cx rfl ga0 dX4_dropOldest_34 ?_
        refine v_getfield (pc := 35) cx flX4_11 (by assumption) gf0 dX4_dropOldest_35 ?_
        refine v_iconst (pc := 38) cx dX4_dropOldest_38 ?_
        refine v_aload_n (pc := 39) cx rfl ga1 dX4_dropOldest_39 ?_
        refine v_aastore (pc := 40) cx (4) g1 (by omega) hfs dX4_dropOldest_40 (fun E40 hE40 hF40 => ?_)
        replace g0 := (hF40 _ (by omega)).trans g0
        replace g1 := hE40
        replace hFr := fun j hj => (hF40 j (by omega)).trans (hFr j hj)
        refine v_aload_n (pc := 41) cx rfl ga0 dX4_dropOldest_41 ?_
        refine v_iconst (pc := 42) cx dX4_dropOldest_42 ?_
        refine v_putfield (pc := 43) cx fpX4_18 g0 ⟨rfl, rfl⟩ pf1 dX4_dropOldest_43 (fun E43 hE43 hF43 => ?_)
        replace g0 := hE43
        replace g1 := (hF43 _ (by omega)).trans g1
        replace hFr := fun j hj => (hF43 j (by omega)).trans (hFr j hj)
        refine v_return (pc := 46) cx hI ?_ dX4_dropOldest_46
        have hFr : Out E E43 o (o + 2) := hFr
        have hsame : ∀ j, j < 5 → ∃ j', j' < 5 ∧ (if j = 4 then a 0 else if j + 1 < 5 then a (j + 1) else a j) = a j' ∧ (j = 4 → j' = 0) ∧ (j < 4 → j' = j + 1) := by
          intro j hj
          by_cases e1 : j = 4
          · exact ⟨0, by omega, by rw [if_pos e1], fun _ => rfl, fun _ => by omega⟩
          · exact ⟨j + 1, by omega, by rw [if_neg e1, if_pos (by omega)], fun q => absurd q e1, fun _ => rfl⟩
        refine ⟨⟨fun j => if j = 4 then a 0 else if j + 1 < 5 then a (j + 1) else a j, g0, ?_, ?_, by omega, ?_, ?_, ?_, ?_⟩, hFr⟩
        · rw [g1]
          congr 7
          funext j
          by_cases e1 : j = 4
          · subst e1
            simp [upO]
          · simp only [upO, if_neg e1]
        · rw [List.length_tail]; omega
        · intro j hj
          obtain ⟨j', q1, q2, -⟩ := hsame j hj
          show ∃ k, k < 5 ∧ (if j = 4 then a 0 else if j + 1 < 5 then a (j + 1) else a j) = _
          rw [q2]
          exact h4 j' q1
        · intro i j hi hj hij
          obtain ⟨i', p1, p2, p3, p4⟩ := hsame i hi
          obtain ⟨j', q1, q2, q3, q4⟩ := hsame j hj
          have := h5 i' j' p1 q1 (p2.symm.trans (hij.trans q2))
          omega
        · intro j hj
          obtain ⟨j', q1, q2, -⟩ := hsame j hj
          show ∃ σ, isS (fG X) E43 (if j = 4 then a 0 else if j + 1 < 5 then a (j + 1) else a j) σ
          rw [q2]
          obtain ⟨k, hk, e⟩ := h4 j' q1
          obtain ⟨σ, hσ⟩ := h6 j' q1
          exact ⟨σ, hσ.out hFr (by omega)⟩
        · intro j hj
          obtain ⟨j', q1, q2, q3, q4⟩ := hsame j (by omega)
          show ∃ σ, hs.tail[j]? = some σ ∧ isS (fG X) E43 (if j = 4 then a 0 else if j + 1 < 5 then a (j + 1) else a j) σ
          rw [q2]
          obtain ⟨k, hk, e⟩ := h4 j' q1
          obtain ⟨σ, e2, hσ⟩ := h7 j' (by omega)
          refine ⟨σ, ?_, hσ.out hFr (by omega)⟩
          rw [List.getElem?_tail, ← q4 hj]
          exact e2
      · obtain ⟨k0, hk0, e0⟩ := h4 i (by omega)
        obtain ⟨σ0, hσ0⟩ := h6 i (by omega)
        obtain ⟨fs, hfs⟩ := (hσ0.out hFr (by omega)).obj
        have e1 : (fun j => some (if j + 1 < i then a (j + 1) else a j)) i = some (a i) := by
          show some (if i + 1 < i then a (i + 1) else a i) = some (a i)
          rw [if_neg (by omega)]
        refine v_aload_n (pc := 14) cx rfl ga0 dX4_dropOldest_14 ?_
        refine v_getfield (pc := 15) cx flX4_11 (by assumption) gf0 dX4_dropOldest_15 ?_
        refine v_iload_n (pc := 18) cx rfl ga2 dX4_dropOldest_18 ?_
        refine v_iconst (pc := 19) cx dX4_dropOldest_19 ?_
        refine v_isub (pc := 20) cx dX4_dropOldest_20 ?_
        refine v_aload_n (pc := 21) cx rfl ga0 dX4_dropOldest_21 ?_
        refine v_getfield (pc := 22) cx flX4_11 (by assumption) gf0 dX4_dropOldest_22 ?_
        refine v_iload_n (pc := 25) cx rfl ga2 dX4_dropOldest_25 ?_
        refine v_aaload (pc := 26) cx (i) (by assumption) (by omega) (e1) dX4_dropOldest_26 ?_
        refine v_aastore (pc := 27) cx (i - 1) g1 (by omega) hfs dX4_dropOldest_27 (fun E27 hE27 hF27 => ?_)
        replace g0 := (hF27 _ (by omega)).trans g0
        replace g1 := hE27
        replace hFr := fun j hj => (hF27 j (by omega)).trans (hFr j hj)
        refine v_iinc (pc := 28) cx ga2 (sa2 rfl) dX4_dropOldest_28 ?_
        refine v_goto (pc := 31) cx 9 dX4_dropOldest_31 rfl ?_
        refine ih (i + 1) _ (by omega) (by omega) (by omega) (g0.trans h0.symm) ?_ hFr
        rw [g1]
        congr 7
        funext j
        by_cases e2 : j = i - 1
        · simp only [upO, if_pos e2]
          rw [if_pos (by omega), e2, show i - 1 + 1 = i by omega]
        · simp only [upO, if_neg e2]
          by_cases e3 : j + 1 < i
          · rw [if_pos e3, if_pos (by omega)]
          · rw [if_neg e3, if_neg (by omega)]
  refine v_aload_n (pc := 0) cx rfl ga0 dX4_dropOldest_0 ?_
  refine v_getfield (pc := 1) cx flX4_11 (by assumption) gf0 dX4_dropOldest_1 ?_
  refine v_iconst (pc := 4) cx dX4_dropOldest_4 ?_
  refine v_aaload (pc := 5) cx (0) (by assumption) (by omega) (show (fun j => some (a j)) 0 = some (a 0) from rfl) dX4_dropOldest_5 ?_
  refine v_astore_n (pc := 6) cx rfl (sa1 rfl) dX4_dropOldest_6 ?_
  refine v_iconst (pc := 7) cx dX4_dropOldest_7 ?_
  refine v_istore_n (pc := 8) cx rfl (sa2 rfl) dX4_dropOldest_8 ?_
  refine loop 5 1 E (by omega) (by omega) (by omega) rfl ?_ (fun _ _ => rfl)
  rw [h1]
  congr 7
set_option maxRecDepth 100000 in
set_option maxHeartbeats 4000000 in
theorem c_Hi_keep (lc : Launch) (G : Gc) (E : Wd) (nh : Nat) {o os : Nat} {hs : List Sg} {σ : Sg} (h : isH G E o hs) (hs0 : isS G E os σ) (hd : os + 16 ≤ o ∨ o + 82 ≤ os) : CV lc G 4 yX4_keep cX4_keep 2 [.ref (gb G + o), .ref (gb G + os)] E nh 0 0 (fun E' => isH G E' o (keepH hs σ) ∧ Out E E' o (o + 82)) := by
  refine CV.mk (by decide +kernel) rfl (Nat.le_of_ble_eq_true rfl) ?_
  intro X hG hL cx hR hI hini
  subst hG; subst hL
  show V X E (nh, 0, 0) 0 [some (.ref (gb (fG X) + o)), some (.ref (gb (fG X) + os))] []
  have fin : ∀ (E' : Wd) (m : Nat) (a : Nat → Nat) (hs' : List Sg), m < 5 → rHi (fG X) E' o m a hs' → hs' = (if 5 ≤ hs.length then hs.tail else hs) → Out E E' o (o + 82) → V X E' (nh, 0, 0) 12 [some (.ref (gb (fG X) + o)), some (.ref (gb (fG X) + os))] [] := by
    intro E' m a hs' hm h hhs hFr
    obtain ⟨h0, h1, h2, h3, h4, h5, h6, h7⟩ := h
    obtain ⟨k, hk, e⟩ := h4 m hm
    obtain ⟨σ0, hσ0⟩ := h6 m hm
    obtain ⟨fs, hfs⟩ := hσ0.obj
    refine v_aload_n (pc := 12) cx rfl ga0 dX4_keep_12 ?_
    refine v_getfield (pc := 13) cx flX4_11 (by assumption) gf0 dX4_keep_13 ?_
    refine v_aload_n (pc := 16) cx rfl ga0 dX4_keep_16 ?_
    refine v_getfield (pc := 17) cx flX4_18 (by assumption) gf1 dX4_keep_17 ?_
    refine v_aaload (pc := 20) cx (m) (by assumption) (by omega) (show (fun j => some (a j)) m = some (a m) from rfl) dX4_keep_20 ?_
    refine v_aload_n (pc := 21) cx rfl ga1 dX4_keep_21 ?_
    refine v_callVV (pc := 22) cx hR (c_St_copyFrom _ _ _ _ hσ0 (hs0.out hFr (by omega)) (by omega)) mlX4_25 (by decide) (by assumption) rfl rfl rfl (Nat.le_of_ble_eq_true rfl) ⟨Nat.le_refl _, Nat.le_refl _⟩ dX4_keep_22 (fun E2 hP => ?_)
    obtain ⟨hn, hF⟩ := hP
    replace h0 := ((hF) _ (by omega)).trans h0
    replace h1 := ((hF) _ (by omega)).trans h1
    replace hFr : Out _ _ _ _ := fun j hj => ((hF) j (by omega)).trans (hFr j hj)
    refine v_aload_n (pc := 25) cx rfl ga0 dX4_keep_25 ?_
    refine v_dup (pc := 26) cx rfl dX4_keep_26 ?_
    refine v_getfield (pc := 27) cx flX4_18 (by assumption) gf1 dX4_keep_27 ?_
    refine v_iconst (pc := 30) cx dX4_keep_30 ?_
    refine v_iadd (pc := 31) cx dX4_keep_31 ?_
    refine v_putfield (pc := 32) cx fpX4_18 h0 ⟨rfl, rfl⟩ pf1 dX4_keep_32 (fun E32 hE32 hF32 => ?_)
    replace h0 := hE32
    replace h1 := (hF32 _ (by omega)).trans h1
    replace hFr := fun j hj => (hF32 j (by omega)).trans (hFr j hj)
    have hF2 : Out E' E32 o (a m + 16) := fun j hj => (hF32 j (by omega)).trans (hF j (by omega))
    have hF32' : Out E2 E32 o (o + 1) := fun j hj => hF32 j (by omega)
    refine v_return (pc := 35) cx hI ?_ dX4_keep_35
    have hlen : (keepH hs σ).length = m + 1 := by
      unfold keepH
      rw [← hhs, List.length_append, ← h2]
      rfl
    have hkeep : ∀ j, j < 5 → j ≠ m → ∀ τ, isS (fG X) E' (a j) τ → isS (fG X) E32 (a j) τ := by
      intro j hj hjm τ hτ
      obtain ⟨k', hk', e'⟩ := h4 j hj
      have hne : k ≠ k' := fun q => hjm (h5 j m hj hm (by rw [e', e, q]))
      exact (hτ.out hF (by omega)).out hF32' (by omega)
    refine ⟨⟨a, ?_⟩, hFr⟩
    rw [hlen]
    refine ⟨h0, h1, hlen.symm, by omega, h4, h5, fun j hj => ?_, fun j hj => ?_⟩
    · by_cases e2 : j = m
      · subst e2
        exact ⟨σ, hn.out hF32' (by omega)⟩
      · obtain ⟨τ, hτ⟩ := h6 j hj
        exact ⟨τ, hkeep j hj e2 τ hτ⟩
    · unfold keepH
      rw [← hhs]
      by_cases e2 : j = m
      · subst e2
        refine ⟨σ, ?_, hn.out hF32' (by omega)⟩
        rw [List.getElem?_append_right (by omega), h2]
        simp
      · obtain ⟨τ, e3, hτ⟩ := h7 j (by omega)
        refine ⟨τ, ?_, hkeep j (by omega) e2 τ hτ⟩
        rw [List.getElem?_append_left (by omega)]
        exact e3
  obtain ⟨a, h⟩ := h
  have h00 := h
  obtain ⟨h0, h1, h2, h3, -⟩ := h00
  refine v_aload_n (pc := 0) cx rfl ga0 dX4_keep_0 ?_
  refine v_getfield (pc := 1) cx flX4_18 (by assumption) gf1 dX4_keep_1 ?_
  refine v_iconst (pc := 4) cx dX4_keep_4 ?_
  refine v_icmp_lt (pc := 5) cx 12 dX4_keep_5 rfl (by omega) (fun c5 => ?_) (fun c5 => ?_)
  · exact fin E hs.length a hs (by omega) h (by rw [if_neg (by omega)]) (fun _ _ => rfl)
  · refine v_aload_n (pc := 8) cx rfl ga0 dX4_keep_8 ?_
    have e : hs.length = 5 := by omega
    rw [e] at h
    refine v_callVV (pc := 9) cx hR (c_Hi_dropOldest _ _ _ _ h) mlX4_22 (by decide) (by assumption) rfl rfl rfl (Nat.le_of_ble_eq_true rfl) ⟨Nat.le_refl _, Nat.le_refl _⟩ dX4_keep_9 (fun E2 hP => ?_)
    obtain ⟨⟨a', h'⟩, hF⟩ := hP
    exact fin E2 4 a' hs.tail (by omega) h' (by rw [if_pos (by omega)]) (fun j hj => hF j (by omega))
set_option maxRecDepth 100000 in
set_option maxHeartbeats 4000000 in
theorem c_Hi_restore (lc : Launch) (G : Gc) (E : Wd) (nh : Nat) {o os : Nat} {hs : List Sg} {σ τ : Sg} (h : isH G E o (hs ++ [σ])) (hs0 : isS G E os τ) (hd : os + 16 ≤ o ∨ o + 82 ≤ os) : CV lc G 4 yX4_restoreInto cX4_restoreInto 2 [.ref (gb G + o), .ref (gb G + os)] E nh 0 0 (fun E' => isH G E' o hs ∧ isS G E' os σ ∧ ∀ j, j ≠ o → (j < os ∨ os + 16 ≤ j) → E' j = E j) := by
  refine CV.mk (by decide +kernel) rfl (Nat.le_of_ble_eq_true rfl) ?_
  intro X hG hL cx hR hI hini
  subst hG; subst hL
  show V X E (nh, 0, 0) 0 [some (.ref (gb (fG X) + o)), some (.ref (gb (fG X) + os))] []
  obtain ⟨a, h0, h1, h2, h3, h4, h5, h6, h7⟩ := h
  rw [List.length_append, List.length_singleton] at h0 h3 h7
  obtain ⟨σ', e1, hσ⟩ := h7 hs.length (by omega)
  obtain ⟨k, hk, e⟩ := h4 hs.length (by omega)
  have e2 : σ' = σ := by
    rw [List.getElem?_append_right (Nat.le_refl _)] at e1
    simp at e1
    exact e1.symm
  subst e2
  obtain ⟨fs, hfs⟩ := hσ.obj
  refine v_aload_n (pc := 0) cx rfl ga0 dX4_restoreInto_0 ?_
  refine v_getfield (pc := 1) cx flX4_18 (by assumption) gf1 dX4_restoreInto_1 ?_
  refine v_if_le (pc := 4) cx 30 dX4_restoreInto_4 rfl (by omega) (fun c4 => ?_) (fun c4 => ?_)
  · omega
  · refine v_aload_n (pc := 7) cx rfl ga0 dX4_restoreInto_7 ?_
    refine v_dup (pc := 8) cx rfl dX4_restoreInto_8 ?_
    refine v_getfield (pc := 9) cx flX4_18 (by assumption) gf1 dX4_restoreInto_9 ?_
    refine v_iconst (pc := 12) cx dX4_restoreInto_12 ?_
    refine v_isub (pc := 13) cx dX4_restoreInto_13 ?_
    refine v_putfield (pc := 14) cx fpX4_18 h0 ⟨rfl, rfl⟩ pf1 dX4_restoreInto_14 (fun E14 hE14 hF14 => ?_)
    replace h0 := hE14
    replace h1 := (hF14 _ (by omega)).trans h1
    rw [show ((hs.length + 1 : Nat) : Int) - 1 = ((hs.length : Nat) : Int) by omega] at h0
    have hF14' : Out E E14 o (o + 1) := fun j hj => hF14 j (by omega)
    have hσ' := hσ.out hF14' (by omega)
    replace hs0 := hs0.out hF14' (by omega)
    refine v_aload_n (pc := 17) cx rfl ga1 dX4_restoreInto_17 ?_
    refine v_aload_n (pc := 18) cx rfl ga0 dX4_restoreInto_18 ?_
    refine v_getfield (pc := 19) cx flX4_11 (by assumption) gf0 dX4_restoreInto_19 ?_
    refine v_aload_n (pc := 22) cx rfl ga0 dX4_restoreInto_22 ?_
    refine v_getfield (pc := 23) cx flX4_18 (by assumption) gf1 dX4_restoreInto_23 ?_
    refine v_aaload (pc := 26) cx (hs.length) (by assumption) (by omega) (show (fun j => some (a j)) hs.length = some (a hs.length) from rfl) dX4_restoreInto_26 ?_
    obtain ⟨ft, hft⟩ := hs0.obj
    refine v_callVV (pc := 27) cx hR (c_St_copyFrom _ _ _ _ hs0 hσ' (by omega)) mlX4_25 (by decide) (by assumption) rfl rfl rfl (Nat.le_of_ble_eq_true rfl) ⟨Nat.le_refl _, Nat.le_refl _⟩ dX4_restoreInto_27 (fun E2 hP => ?_)
    obtain ⟨hn, hF⟩ := hP
    refine v_return (pc := 30) cx hI ?_ dX4_restoreInto_30
    refine ⟨⟨a, (hF _ (by omega)).trans h0, (hF _ (by omega)).trans h1, rfl, by omega, h4, h5, fun j hj => ?_, fun j hj => ?_⟩, hn, fun j hj1 hj2 => (hF j hj2).trans (hF14 j hj1)⟩
    · obtain ⟨k', hk', e'⟩ := h4 j hj
      obtain ⟨τ', hτ⟩ := h6 j hj
      exact ⟨τ', (hτ.out hF14' (by omega)).out hF (by omega)⟩
    · obtain ⟨k', hk', e'⟩ := h4 j (by omega)
      obtain ⟨τ', e3, hτ⟩ := h7 j (by omega)
      refine ⟨τ', ?_, (hτ.out hF14' (by omega)).out hF (by omega)⟩
      rw [List.getElem?_append_left (by omega)] at e3
      exact e3
end
section
/-! what leaves the funnel in the ticks to come -/
def rOl (G : Gc) (E : Wd) (o : Nat) (k : Int) (lf dy : Nat → Int) : Prop :=
  E o = some (.inr (6, [.ref (gb G + (o + 1)), .ref (gb G + (o + 2)), .int (iI k)])) ∧ E (o + 1) = some (AI G 1000 lf) ∧ E (o + 2) = some (AZ G 1000 dy)
theorem rOl.out {G : Gc} {E E' : Wd} {o : Nat} {k : Int} {lf dy : Nat → Int} {x y : Nat} (h : rOl G E o k lf dy) (hE : Out E E' x y) (hxy : o + 3 ≤ x ∨ y ≤ o) : rOl G E' o k lf dy :=
  ⟨(hE _ (by omega)).trans h.1, (hE _ (by omega)).trans h.2.1, (hE _ (by omega)).trans h.2.2⟩
def laF (rn : Nat → Int) (cap dg c0 : Int) : Nat → Int
  | 0 => c0
  | i + 1 => laF rn cap dg c0 i + fTaken (rn i) cap (laF rn cap dg c0 i) - fGone (rn i) cap (laF rn cap dg c0 i) dg
def laL (rn : Nat → Int) (cap dg c0 : Int) (i : Nat) : Int := rn i - fTaken (rn i) cap (laF rn cap dg c0 i)
theorem laF_bd {rn : Nat → Int} {cap dg c0 : Int} (hc : 0 ≤ c0 ∧ c0 ≤ 200) (hcap : 0 ≤ cap ∧ cap ≤ 200) (hdg : 0 ≤ dg) (hr : ∀ i, 0 ≤ rn i) : ∀ i, 0 ≤ laF rn cap dg c0 i ∧ laF rn cap dg c0 i ≤ 200 := by
  intro i
  induction i with
  | zero => exact hc
  | succ i ih =>
    have f1 := fT_bd (cap := cap) (c := laF rn cap dg c0 i) (hr i)
    have f2 : 0 ≤ fGone (rn i) cap (laF rn cap dg c0 i) dg ∧ fGone (rn i) cap (laF rn cap dg c0 i) dg ≤ laF rn cap dg c0 i + fTaken (rn i) cap (laF rn cap dg c0 i) := by
      unfold fGone
      split <;> omega
    simp only [laF]
    omega
set_option maxRecDepth 100000 in
set_option maxHeartbeats 4000000 in
theorem c_Ol_lookAhead (lc : Launch) (G : Gc) (E : Wd) (nh : Nat) {o os k : Nat} {z : Int} {lf dy : Nat → Int} {st : Nat → Int} {n : Nat} {b l r : Nat → Int} {fc fd : Int} {B : BT} {cr cc : Int} {ng : Nat} {gf gs : Nat → Int} {nm : Nat} {t p v : Nat → Int} {tick fell : Int} (h : rOl G E o z lf dy) (hs : rSt G E os st n b l r fc fd B cr cc ng gf gs nm t p v tick fell) (hd : os + 16 ≤ o ∨ o + 3 ≤ os) (hk : k ≤ 1000) (hn : n ≤ 12) (hsh : okSh (lst b l r n)) (hb : (0 ≤ tick ∧ tick ≤ 5000) ∧ (0 ≤ fc ∧ fc ≤ 200) ∧ (0 ≤ st 2 ∧ st 2 ≤ 200) ∧ (0 ≤ st 3 ∧ st 3 ≤ 50)) : CV lc G 2 yX6_lookAhead cX6_lookAhead 5 [.ref (gb G + o), .ref (gb G + os), .int (iI (k : Int))] E nh 0 0 (fun E' => (∃ lf' dy' fc' fd', rOl G E' o k lf' dy' ∧ rSt G E' os st n b l r fc' fd' B cr cc ng gf gs nm t p v tick fell ∧ ∀ i, i < k → lf' i = laL (fun i => rainL (lst b l r n) (tick + i)) (st 2) (st 3) fc i ∧ dy' i = (if rainL (lst b l r n) (tick + i) = 0 then 1 else 0)) ∧ ∀ j, (j < o ∨ o + 3 ≤ j) → j ≠ os + 6 → E' j = E j) := by
  refine CV.mk (by decide +kernel) rfl (Nat.le_of_ble_eq_true rfl) ?_
  intro X hG hL cx hR hI hini
  subst hG; subst hL
  show V X E (nh, 0, 0) 0 [some (.ref (gb (fG X) + o)), some (.ref (gb (fG X) + os)), some (.int (iI (k : Int))), none, none] []
  have hrn := rainL_bd hsh.2
  have hbd := laF_bd (rn := fun i => rainL (lst b l r n) (tick + i)) hb.2.1 hb.2.2.1 hb.2.2.2.1 (fun i => (hrn _).1)
  have loop : ∀ (d i : Nat) (E' : Wd) (lf' dy' : Nat → Int) (fd' : Int) (lw : Option Value), i ≤ k → k - i < d → rOl (fG X) E' o k lf' dy' → E' (os + 6) = some (oFi (laF (fun i => rainL (lst b l r n) (tick + i)) (st 2) (st 3) fc i) fd') → (∀ j, j < i → lf' j = laL (fun i => rainL (lst b l r n) (tick + i)) (st 2) (st 3) fc j ∧ dy' j = (if rainL (lst b l r n) (tick + j) = 0 then 1 else 0)) → (∀ j, (j < o ∨ o + 3 ≤ j) → j ≠ os + 6 → E' j = E j) → V X E' (nh, 0, 0) 13 [some (.ref (gb (fG X) + o)), some (.ref (gb (fG X) + os)), some (.int (iI (k : Int))), some (.int (iI (i : Int))), lw] [] := by
    intro d
    induction d with
    | zero => intro i E' lf' dy' fd' lw hi hd; omega
    | succ d ih =>
      intro i E' lf' dy' fd' lw hi hd2 h hf hres hFr
      obtain ⟨h0, h1, h2⟩ := h
      obtain ⟨s0, s1, s2, s3, s4, s5, s6, s7⟩ := hs
      have g0 : E' os = _ := (hFr os (by omega) (by omega)).trans s0
      have g1 : E' (os + 1) = _ := (hFr (os + 1) (by omega) (by omega)).trans s1
      have g2 : rSh (fG X) E' (os + 2) n b l r := ⟨(hFr _ (by omega) (by omega)).trans s2.1, (hFr _ (by omega) (by omega)).trans s2.2.1, (hFr _ (by omega) (by omega)).trans s2.2.2.1, (hFr _ (by omega) (by omega)).trans s2.2.2.2⟩
      refine v_iload_n (pc := 13) cx rfl ga3 dX6_lookAhead_13 ?_
      refine v_aload_n (pc := 14) cx rfl ga0 dX6_lookAhead_14 ?_
      refine v_getfield (pc := 15) cx flX6_25 (by assumption) gf2 dX6_lookAhead_15 ?_
      refine v_icmp_ge (pc := 18) cx 85 dX6_lookAhead_18 rfl (by omega) (fun c18 => ?_) (fun c18 => ?_)
      · refine v_return (pc := 85) cx hI ?_ dX6_lookAhead_85
        have e : i = k := by omega
        subst e
        refine ⟨⟨lf', dy', _, fd', ⟨h0, h1, h2⟩, ⟨g0, g1, g2, hf, ?_, ?_, ?_, ?_⟩, hres⟩, hFr⟩
        · exact (hFr _ (by omega) (by omega)).trans s4
        · exact (hFr _ (by omega) (by omega)).trans s5
        · exact ⟨(hFr _ (by omega) (by omega)).trans s6.1, (hFr _ (by omega) (by omega)).trans s6.2.1, (hFr _ (by omega) (by omega)).trans s6.2.2⟩
        · exact ⟨(hFr _ (by omega) (by omega)).trans s7.1, (hFr _ (by omega) (by omega)).trans s7.2.1, (hFr _ (by omega) (by omega)).trans s7.2.2.1, (hFr _ (by omega) (by omega)).trans s7.2.2.2⟩
      · refine v_aload_n (pc := 21) cx rfl ga1 dX6_lookAhead_21 ?_
        refine v_getfield (pc := 22) cx flX6_29 (by assumption) gf1 dX6_lookAhead_22 ?_
        refine v_aload_n (pc := 25) cx rfl ga1 dX6_lookAhead_25 ?_
        refine v_getfield (pc := 26) cx flX6_35 (by assumption) gf7 dX6_lookAhead_26 ?_
        refine v_iload_n (pc := 29) cx rfl ga3 dX6_lookAhead_29 ?_
        refine v_iadd (pc := 30) cx dX6_lookAhead_30 ?_
        refine v_callVI (pc := 31) cx hR (c_Sh_rainIn _ _ _ _ g2 hn (by omega) (okSh_at hsh)) mlX6_38 (by decide) g2.1 rfl rfl rfl (Nat.le_of_ble_eq_true rfl) ⟨Nat.le_refl _, Nat.le_refl _⟩ dX6_lookAhead_31 (fun v1 E2 hP => ?_)
        obtain ⟨rfl, rfl⟩ := hP
        rw [rainTo_L]
        have b1 := hrn (tick + (i : Int))
        have b2 := hbd i
        have b3 := hsh.1
        refine v_istore (pc := 34) cx (sa4 rfl) dX6_lookAhead_34 ?_
        refine v_aload_n (pc := 36) cx rfl ga0 dX6_lookAhead_36 ?_
        refine v_getfield (pc := 37) cx flX6_9 (by assumption) gf0 dX6_lookAhead_37 ?_
        refine v_iload_n (pc := 40) cx rfl ga3 dX6_lookAhead_40 ?_
        refine v_aload_n (pc := 41) cx rfl ga1 dX6_lookAhead_41 ?_
        refine v_getfield (pc := 42) cx flX6_44 (by assumption) gf2 dX6_lookAhead_42 ?_
        refine v_iload (pc := 45) cx ga4 dX6_lookAhead_45 ?_
        refine v_aload_n (pc := 47) cx rfl ga1 dX6_lookAhead_47 ?_
        refine v_getfield (pc := 48) cx flX6_48 (by assumption) gf0 dX6_lookAhead_48 ?_
        refine v_iconst (pc := 51) cx dX6_lookAhead_51 ?_
        refine v_iaload (pc := 52) cx (2) (by assumption) (by omega) dX6_lookAhead_52 ?_
        refine v_aload_n (pc := 53) cx rfl ga1 dX6_lookAhead_53 ?_
        refine v_getfield (pc := 54) cx flX6_48 (by assumption) gf0 dX6_lookAhead_54 ?_
        refine v_iconst (pc := 57) cx dX6_lookAhead_57 ?_
        refine v_iaload (pc := 58) cx (3) (by assumption) (by omega) dX6_lookAhead_58 ?_
        refine v_callVI (pc := 59) cx hR (c_Fi_passTick _ _ _ _ hf (by omega)) mlX6_51 (by decide) (by assumption) rfl rfl rfl (Nat.le_of_ble_eq_true rfl) ⟨Nat.le_refl _, Nat.le_refl _⟩ dX6_lookAhead_59 (fun v2 E3 hP => ?_)
        obtain ⟨rfl, hf, hF⟩ := hP
        replace h0 := (hF _ (by omega)).trans h0
        replace h1 := (hF _ (by omega)).trans h1
        replace h2 := (hF _ (by omega)).trans h2
        have hF3 : ∀ j, (j < o ∨ o + 3 ≤ j) → j ≠ os + 6 → E3 j = E j := fun j hj1 hj2 => (hF j (by omega)).trans (hFr j hj1 hj2)
        refine v_iastore (pc := 62) cx (i) h1 (by omega) dX6_lookAhead_62 (fun E62 hE62 hF62 => ?_)
        replace h0 := (hF62 _ (by omega)).trans h0
        replace h1 := hE62
        replace h2 := (hF62 _ (by omega)).trans h2
        replace hf := (hF62 _ (by omega)).trans hf
        have hF62' : ∀ j, (j < o ∨ o + 3 ≤ j) → j ≠ os + 6 → E62 j = E j := fun j hj1 hj2 => (hF62 j (by omega)).trans (hF3 j hj1 hj2)
        have fin : ∀ y : Int, y = (if rainL (lst b l r n) (tick + i) = 0 then 1 else 0) → narrow .boolean (.int (iI y)) = .int (iI y) → V X E62 (nh, 0, 0) 78 [some (.ref (gb (fG X) + o)), some (.ref (gb (fG X) + os)), some (.int (iI (k : Int))), some (.int (iI (i : Int))), some (.int (iI (rainL (lst b l r n) (tick + i))))] [.int (iI y), .int (iI (i : Int)), .ref (gb (fG X) + (o + 2))] := by
          intro y hy hn
          refine v_bastore (pc := 78) cx (i) h2 (by omega) (hn) dX6_lookAhead_78 (fun E78 hE78 hF78 => ?_)
          replace h0 := (hF78 _ (by omega)).trans h0
          replace h1 := (hF78 _ (by omega)).trans h1
          replace h2 := hE78
          replace hf := (hF78 _ (by omega)).trans hf
          refine v_iinc (pc := 79) cx ga3 (sa3 rfl) dX6_lookAhead_79 ?_
          refine v_goto (pc := 82) cx 13 dX6_lookAhead_82 rfl ?_
          refine ih (i + 1) _ _ _ _ _ (by omega) (by omega) ⟨h0, h1, h2⟩ hf (fun j hj => ?_) (fun j hj1 hj2 => (hF78 j (by omega)).trans (hF62' j hj1 hj2))
          by_cases e : j = i
          · subst e
            rw [upI_s, upI_s]
            exact ⟨rfl, hy⟩
          · rw [upI_n e, upI_n e]
            exact hres j (by omega)
        refine v_aload_n (pc := 63) cx rfl ga0 dX6_lookAhead_63 ?_
        refine v_getfield (pc := 64) cx flX6_15 (by assumption) gf1 dX6_lookAhead_64 ?_
        refine v_iload_n (pc := 67) cx rfl ga3 dX6_lookAhead_67 ?_
        refine v_iload (pc := 68) cx ga4 dX6_lookAhead_68 ?_
        refine v_if_ne (pc := 70) cx 77 dX6_lookAhead_70 rfl (by omega) (fun c70 => ?_) (fun c70 => ?_)
        · refine v_iconst (pc := 77) cx dX6_lookAhead_77 ?_
          exact fin 0 (by rw [if_neg (by assumption)]) rfl
        · refine v_iconst (pc := 73) cx dX6_lookAhead_73 ?_
          refine v_goto (pc := 74) cx 78 dX6_lookAhead_74 rfl ?_
          exact fin 1 (by rw [if_pos (by assumption)]) rfl
  obtain ⟨h0, h1, h2⟩ := h
  refine v_aload_n (pc := 0) cx rfl ga0 dX6_lookAhead_0 ?_
  refine v_iload_n (pc := 1) cx rfl ga2 dX6_lookAhead_1 ?_
  refine v_sipush (pc := 2) cx (by decide) dX6_lookAhead_2 ?_
  refine v_callSI (pc := 5) cx hR (c_min _ _ _ _ (by omega)) mlX6_19 (by decide) rfl (Nat.le_of_ble_eq_true rfl) ⟨Nat.le_refl _, Nat.le_refl _⟩ dX6_lookAhead_5 (fun v3 E4 hP => ?_)
  obtain ⟨rfl, rfl⟩ := hP
  rw [show min (k : Int) 1000 = (k : Int) by omega]
  refine v_putfield (pc := 8) cx fpX6_25 h0 ⟨rfl, rfl⟩ pf2 dX6_lookAhead_8 (fun E8 hE8 hF8 => ?_)
  replace h0 := hE8
  replace h1 := (hF8 _ (by omega)).trans h1
  replace h2 := (hF8 _ (by omega)).trans h2
  refine v_iconst (pc := 11) cx dX6_lookAhead_11 ?_
  refine v_istore_n (pc := 12) cx rfl (sa3 rfl) dX6_lookAhead_12 ?_
  refine loop (k + 1) 0 _ lf dy fd none (by omega) (by omega) ⟨h0, h1, h2⟩ ((hF8 _ (by omega)).trans hs.2.2.2.1) (fun j hj => by omega) (fun j hj1 hj2 => hF8 j (by omega))
def bN (lf dy : Nat → Int) (cap tt dg : Int) (B : BT) : Nat → BT
  | 0 => B
  | i + 1 => bS (lf i) (dy i) cap tt dg (bN lf dy cap tt dg B i)
theorem bS_bd {rain d cap tt dg : Int} {B : BT} (hr : 0 ≤ rain) (hdg : 0 ≤ dg) (hcap : 20 ≤ cap) (htt : 0 ≤ tt ∧ tt ≤ 20) (h : 0 ≤ B.1 ∧ 0 ≤ B.2.1 ∧ B.2.1 ≤ 20) : (0 ≤ (bS rain d cap tt dg B).1 ∧ 0 ≤ (bS rain d cap tt dg B).2.1 ∧ (bS rain d cap tt dg B).2.1 ≤ 20) ∧ (bS rain d cap tt dg B).1 ≤ B.1 + rain ∧ B.2.2.2.1 ≤ (bS rain d cap tt dg B).2.2.2.1 ∧ B.2.2.2.2.1 ≤ (bS rain d cap tt dg B).2.2.2.2.1 ∧ (bS rain d cap tt dg B).1 + (bS rain d cap tt dg B).2.2.2.1 + (bS rain d cap tt dg B).2.2.2.2.1 ≤ B.1 + B.2.2.2.1 + B.2.2.2.2.1 + rain := by
  have hg : 0 ≤ bGone B.1 rain d dg ∧ bGone B.1 rain d dg ≤ B.1 + rain := by
    unfold bGone
    split <;> omega
  unfold bS
  split
  · simp only; omega
  · split
    · simp only; omega
    · simp only; omega
theorem bN_bd {lf dy : Nat → Int} {cap tt dg : Int} {B : BT} {k : Nat} (hr : ∀ i, i < k → 0 ≤ lf i ∧ lf i ≤ 2400) (hdg : 0 ≤ dg) (hcap : 20 ≤ cap) (htt : 0 ≤ tt ∧ tt ≤ 20) (h : 0 ≤ B.1 ∧ 0 ≤ B.2.1 ∧ B.2.1 ≤ 20) : ∀ i : Nat, i ≤ k → (0 ≤ (bN lf dy cap tt dg B i).1 ∧ 0 ≤ (bN lf dy cap tt dg B i).2.1 ∧ (bN lf dy cap tt dg B i).2.1 ≤ 20) ∧ B.2.2.2.1 ≤ (bN lf dy cap tt dg B i).2.2.2.1 ∧ B.2.2.2.2.1 ≤ (bN lf dy cap tt dg B i).2.2.2.2.1 ∧ (bN lf dy cap tt dg B i).1 + (bN lf dy cap tt dg B i).2.2.2.1 + (bN lf dy cap tt dg B i).2.2.2.2.1 ≤ B.1 + B.2.2.2.1 + B.2.2.2.2.1 + 2400 * i := by
  intro i
  induction i with
  | zero =>
    intro _
    simp only [bN]
    omega
  | succ i ih =>
    intro hi
    obtain ⟨i1, i2, i3, i4⟩ := ih (by omega)
    have h1 := hr i (by omega)
    have h2 := bS_bd (rain := lf i) (d := dy i) (cap := cap) (tt := tt) (dg := dg) (B := bN lf dy cap tt dg B i) h1.1 hdg hcap htt i1
    simp only [bN]
    omega
theorem bN_mono {lf dy : Nat → Int} {cap tt dg : Int} {B : BT} {k : Nat} (hr : ∀ i, i < k → 0 ≤ lf i ∧ lf i ≤ 2400) (hdg : 0 ≤ dg) (hcap : 20 ≤ cap) (htt : 0 ≤ tt ∧ tt ≤ 20) (h : 0 ≤ B.1 ∧ 0 ≤ B.2.1 ∧ B.2.1 ≤ 20) (i : Nat) : ∀ d : Nat, i + d ≤ k → (bN lf dy cap tt dg B i).2.2.2.1 + (bN lf dy cap tt dg B i).2.2.2.2.1 ≤ (bN lf dy cap tt dg B (i + d)).2.2.2.1 + (bN lf dy cap tt dg B (i + d)).2.2.2.2.1 := by
  intro d
  induction d with
  | zero => intro _; exact Int.le_refl _
  | succ d ih =>
    intro hi
    have h0 := ih (by omega)
    have h1 := hr (i + d) (by omega)
    have h2 := bS_bd (rain := lf (i + d)) (d := dy (i + d)) (cap := cap) (tt := tt) (dg := dg) (B := bN lf dy cap tt dg B (i + d)) h1.1 hdg hcap htt (bN_bd hr hdg hcap htt h (i + d) (by omega)).1
    rw [show i + (d + 1) = (i + d) + 1 by omega]
    simp only [bN]
    omega
set_option maxRecDepth 100000 in
set_option maxHeartbeats 4000000 in
theorem c_Ol_losesAtMost (lc : Launch) (G : Gc) (E : Wd) (nh : Nat) {o os k : Nat} {most cap : Int} {lf dy : Nat → Int} {st : Nat → Int} {n : Nat} {b l r : Nat → Int} {fc fd : Int} {B : BT} {cr cc : Int} {ng : Nat} {gf gs : Nat → Int} {nm : Nat} {t p v : Nat → Int} {tick fell : Int} (h : rOl G E o (k : Int) lf dy) (hs : rSt G E os st n b l r fc fd B cr cc ng gf gs nm t p v tick fell) (hd : os + 16 ≤ o ∨ o + 3 ≤ os) (hk : k ≤ 1000) (hlf : ∀ i, i < k → (0 ≤ lf i ∧ lf i ≤ 2400) ∧ (dy i = 0 ∨ dy i = 1)) (hm : 0 ≤ most ∧ most ≤ 100000) (hc : 20 ≤ cap ∧ cap ≤ 500) (hb : (0 ≤ st 1 ∧ st 1 ≤ 20) ∧ (0 ≤ st 4 ∧ st 4 ≤ 50) ∧ (0 ≤ B.1 ∧ 0 ≤ B.2.1 ∧ B.2.1 ≤ 20) ∧ (0 ≤ B.2.2.2.1 ∧ 0 ≤ B.2.2.2.2.1 ∧ B.1 + B.2.2.2.1 + B.2.2.2.2.1 ≤ 20000000)) : CI lc G 2 yX6_losesAtMost cX6_losesAtMost 9 .boolean [.ref (gb G + o), .int (iI most), .int (iI cap), .ref (gb G + os)] E nh 0 0 (fun v E' => ((v = 1 ∧ (bN lf dy cap (st 1) (st 4) B k).2.2.2.1 + (bN lf dy cap (st 1) (st 4) B k).2.2.2.2.1 ≤ B.2.2.2.1 + B.2.2.2.2.1 + most) ∨ (v = 0 ∧ B.2.2.2.1 + B.2.2.2.2.1 + most < (bN lf dy cap (st 1) (st 4) B k).2.2.2.1 + (bN lf dy cap (st 1) (st 4) B k).2.2.2.2.1)) ∧ (∃ B', E' (os + 7) = some (oBk B')) ∧ Out E E' (os + 7) (os + 8)) := by
  refine CI.mk (by decide +kernel) rfl (Nat.le_of_ble_eq_true rfl) ?_
  intro X hG hL cx hR hI
  subst hG; subst hL
  show V X E (nh, 0, 0) 0 [some (.ref (gb (fG X) + o)), some (.int (iI most)), some (.int (iI cap)), some (.ref (gb (fG X) + os)), none, none, none, none, none] []
  obtain ⟨s0, s1, s2, s3, s4, s5, s6, s7⟩ := hs
  obtain ⟨h0, h1, h2⟩ := h
  have hbd := bN_bd (lf := lf) (dy := dy) (k := k) (fun i hi => (hlf i hi).1) hb.2.1.1 hc.1 hb.1 hb.2.2.1
  have hmo := bN_mono (lf := lf) (dy := dy) (k := k) (fun i hi => (hlf i hi).1) hb.2.1.1 hc.1 hb.1 hb.2.2.1
  generalize hbN : bN lf dy cap (st 1) (st 4) B = bn at hbd hmo ⊢
  have fin : ∀ (i : Nat) (E' : Wd), i ≤ k → E' (os + 7) = some (oBk (bn i)) → Out E E' (os + 7) (os + 8) → (i = k ∨ B.2.2.2.1 + B.2.2.2.2.1 + most < (bn i).2.2.2.1 + (bn i).2.2.2.2.1) → V X E' (nh, 0, 0) 96 [some (.ref (gb (fG X) + o)), some (.int (iI most)), some (.int (iI cap)), some (.ref (gb (fG X) + os)), some (.ref (gb (fG X) + (os + 7))), some (.int (iI (st 1))), some (.int (iI (st 4))), some (.int (iI (B.2.2.2.2.1 + B.2.2.2.1 + most))), some (.int (iI (i : Int)))] [] := by
    intro i E' hi hbk hFr hor
    have hb1 := hbd i hi
    have hm1 := hmo i (k - i) (by omega)
    rw [show i + (k - i) = k by omega] at hm1
    refine v_aload (pc := 96) cx ga4 dX6_losesAtMost_96 ?_
    refine v_getfield (pc := 98) cx flX6_61 (by assumption) gf4 dX6_losesAtMost_98 ?_
    refine v_aload (pc := 101) cx ga4 dX6_losesAtMost_101 ?_
    refine v_getfield (pc := 103) cx flX6_66 (by assumption) gf3 dX6_losesAtMost_103 ?_
    refine v_iadd (pc := 106) cx dX6_losesAtMost_106 ?_
    refine v_iload (pc := 107) cx ga7 dX6_losesAtMost_107 ?_
    refine v_icmp_gt (pc := 109) cx 116 dX6_losesAtMost_109 rfl (by omega) (fun c109 => ?_) (fun c109 => ?_)
    · refine v_iconst (pc := 116) cx dX6_losesAtMost_116 ?_
      refine v_ireturn (pc := 117) cx hI rfl ?_ dX6_losesAtMost_117
      refine ⟨Or.inr ⟨rfl, ?_⟩, ⟨_, hbk⟩, hFr⟩
      rw [hbN]
      omega
    · refine v_iconst (pc := 112) cx dX6_losesAtMost_112 ?_
      refine v_goto (pc := 113) cx 117 dX6_losesAtMost_113 rfl ?_
      refine v_ireturn (pc := 117) cx hI rfl ?_ dX6_losesAtMost_117
      rcases hor with e | e
      · subst e
        refine ⟨Or.inl ⟨rfl, ?_⟩, ⟨_, hbk⟩, hFr⟩
        rw [hbN]
        omega
      · omega
  have loop : ∀ (d i : Nat) (E' : Wd), i ≤ k → k - i < d → E' (os + 7) = some (oBk (bn i)) → Out E E' (os + 7) (os + 8) → V X E' (nh, 0, 0) 40 [some (.ref (gb (fG X) + o)), some (.int (iI most)), some (.int (iI cap)), some (.ref (gb (fG X) + os)), some (.ref (gb (fG X) + (os + 7))), some (.int (iI (st 1))), some (.int (iI (st 4))), some (.int (iI (B.2.2.2.2.1 + B.2.2.2.1 + most))), some (.int (iI (i : Int)))] [] := by
    intro d
    induction d with
    | zero => intro i E' hi hd; omega
    | succ d ih =>
      intro i E' hi hd2 hbk hFr
      have hb1 := hbd i hi
      have g0 := (hFr _ (by omega)).trans h0
      have g1 := (hFr _ (by omega)).trans h1
      have g2 := (hFr _ (by omega)).trans h2
      refine v_iload (pc := 40) cx ga8 dX6_losesAtMost_40 ?_
      refine v_aload_n (pc := 42) cx rfl ga0 dX6_losesAtMost_42 ?_
      refine v_getfield (pc := 43) cx flX6_25 (by assumption) gf2 dX6_losesAtMost_43 ?_
      refine v_icmp_ge (pc := 46) cx 96 dX6_losesAtMost_46 rfl (by omega) (fun c46 => ?_) (fun c46 => ?_)
      · exact fin i E' hi hbk hFr (Or.inl (by omega))
      · refine v_aload (pc := 49) cx ga4 dX6_losesAtMost_49 ?_
        refine v_getfield (pc := 51) cx flX6_61 (by assumption) gf4 dX6_losesAtMost_51 ?_
        refine v_aload (pc := 54) cx ga4 dX6_losesAtMost_54 ?_
        refine v_getfield (pc := 56) cx flX6_66 (by assumption) gf3 dX6_losesAtMost_56 ?_
        refine v_iadd (pc := 59) cx dX6_losesAtMost_59 ?_
        refine v_iload (pc := 60) cx ga7 dX6_losesAtMost_60 ?_
        refine v_icmp_gt (pc := 62) cx 96 dX6_losesAtMost_62 rfl (by omega) (fun c62 => ?_) (fun c62 => ?_)
        · exact fin i E' hi hbk hFr (Or.inr (by omega))
        · have hl1 := hlf i (by omega)
          refine v_aload (pc := 65) cx ga4 dX6_losesAtMost_65 ?_
          refine v_aload_n (pc := 67) cx rfl ga0 dX6_losesAtMost_67 ?_
          refine v_getfield (pc := 68) cx flX6_9 (by assumption) gf0 dX6_losesAtMost_68 ?_
          refine v_iload (pc := 71) cx ga8 dX6_losesAtMost_71 ?_
          refine v_iaload (pc := 73) cx (i) (by assumption) (by omega) dX6_losesAtMost_73 ?_
          refine v_aload_n (pc := 74) cx rfl ga0 dX6_losesAtMost_74 ?_
          refine v_getfield (pc := 75) cx flX6_15 (by assumption) gf1 dX6_losesAtMost_75 ?_
          refine v_iload (pc := 78) cx ga8 dX6_losesAtMost_78 ?_
          refine v_baload (pc := 80) cx (i) (by assumption) (by omega) dX6_losesAtMost_80 ?_
          refine v_iload_n (pc := 81) cx rfl ga2 dX6_losesAtMost_81 ?_
          refine v_iload (pc := 82) cx ga5 dX6_losesAtMost_82 ?_
          refine v_iload (pc := 84) cx ga6 dX6_losesAtMost_84 ?_
          refine v_callVI (pc := 86) cx hR (c_Bk_passTick _ _ _ _ hbk (by omega)) mlX6_69 (by decide) (by assumption) rfl rfl rfl (Nat.le_of_ble_eq_true rfl) ⟨Nat.le_refl _, Nat.le_refl _⟩ dX6_losesAtMost_86 (fun v1 E2 hP => ?_)
          obtain ⟨-, hbk2, hF⟩ := hP
          refine v_pop (pc := 89) cx rfl dX6_losesAtMost_89 ?_
          refine v_iinc (pc := 90) cx ga8 (sa8 rfl) dX6_losesAtMost_90 ?_
          refine v_goto (pc := 93) cx 40 dX6_losesAtMost_93 rfl ?_
          refine ih (i + 1) E2 (by omega) (by omega) ?_ (fun j hj => (hF j (by omega)).trans (hFr j hj))
          rw [hbk2, ← hbN]
          rfl
  refine v_aload_n (pc := 0) cx rfl ga3 dX6_losesAtMost_0 ?_
  refine v_getfield (pc := 1) cx flX6_57 (by assumption) gf3 dX6_losesAtMost_1 ?_
  refine v_astore (pc := 4) cx (sa4 rfl) dX6_losesAtMost_4 ?_
  refine v_aload_n (pc := 6) cx rfl ga3 dX6_losesAtMost_6 ?_
  refine v_getfield (pc := 7) cx flX6_48 (by assumption) gf0 dX6_losesAtMost_7 ?_
  refine v_iconst (pc := 10) cx dX6_losesAtMost_10 ?_
  refine v_iaload (pc := 11) cx (1) (by assumption) (by omega) dX6_losesAtMost_11 ?_
  refine v_istore (pc := 12) cx (sa5 rfl) dX6_losesAtMost_12 ?_
  refine v_aload_n (pc := 14) cx rfl ga3 dX6_losesAtMost_14 ?_
  refine v_getfield (pc := 15) cx flX6_48 (by assumption) gf0 dX6_losesAtMost_15 ?_
  refine v_iconst (pc := 18) cx dX6_losesAtMost_18 ?_
  refine v_iaload (pc := 19) cx (4) (by assumption) (by omega) dX6_losesAtMost_19 ?_
  refine v_istore (pc := 20) cx (sa6 rfl) dX6_losesAtMost_20 ?_
  refine v_aload (pc := 22) cx ga4 dX6_losesAtMost_22 ?_
  refine v_getfield (pc := 24) cx flX6_61 (by assumption) gf4 dX6_losesAtMost_24 ?_
  refine v_aload (pc := 27) cx ga4 dX6_losesAtMost_27 ?_
  refine v_getfield (pc := 29) cx flX6_66 (by assumption) gf3 dX6_losesAtMost_29 ?_
  refine v_iadd (pc := 32) cx dX6_losesAtMost_32 ?_
  refine v_iload_n (pc := 33) cx rfl ga1 dX6_losesAtMost_33 ?_
  refine v_iadd (pc := 34) cx dX6_losesAtMost_34 ?_
  refine v_istore (pc := 35) cx (sa7 rfl) dX6_losesAtMost_35 ?_
  refine v_iconst (pc := 37) cx dX6_losesAtMost_37 ?_
  refine v_istore (pc := 38) cx (sa8 rfl) dX6_losesAtMost_38 ?_
  exact loop (k + 1) 0 E (by omega) (by omega) (by rw [s4, ← hbN]; rfl) (fun _ _ => rfl)
end
section
/-! the text, and what it says -/
def rTx (G : Gc) (E : Wd) (o : Nat) (n : Nat) (ch : Nat → Int) : Prop :=
  E o = some (.inr (10, [.ref (gb G + (o + 1)), .int (iI (n : Int))])) ∧ E (o + 1) = some (AC G 100 ch)
theorem rTx.out {G : Gc} {E E' : Wd} {o n : Nat} {ch : Nat → Int} {x y : Nat} (h : rTx G E o n ch) (hE : Out E E' x y) (hxy : o + 2 ≤ x ∨ y ≤ o) : rTx G E' o n ch :=
  ⟨(hE _ (by omega)).trans h.1, (hE _ (by omega)).trans h.2⟩
/-- the sign at a place, 0 behind the end -/
def chr (tx : List Int) (p : Nat) : Int := tx.getD p 0
def okTx (tx : List Int) : Prop := tx.length ≤ 100 ∧ ∀ c ∈ tx, 32 ≤ c ∧ c ≤ 126
def isTx (G : Gc) (E : Wd) (o : Nat) (tx : List Int) : Prop := ∃ ch, rTx G E o tx.length ch ∧ ∀ j, j < tx.length → ch j = chr tx j
theorem isTx.out {G : Gc} {E E' : Wd} {o : Nat} {tx : List Int} {x y : Nat} (h : isTx G E o tx) (hE : Out E E' x y) (hxy : o + 2 ≤ x ∨ y ≤ o) : isTx G E' o tx := by
  obtain ⟨ch, h1, h2⟩ := h
  exact ⟨ch, h1.out hE hxy, h2⟩
theorem isTx.obj {G : Gc} {E : Wd} {o : Nat} {tx : List Int} (h : isTx G E o tx) : ∃ fs, E o = some (.inr (10, fs)) := by
  obtain ⟨ch, h1, h2⟩ := h
  exact ⟨_, h1.1⟩
theorem chr_out {tx : List Int} {p : Nat} (h : tx.length ≤ p) : chr tx p = 0 := by
  unfold chr
  rw [List.getD_eq_getElem?_getD, List.getElem?_eq_none h]
  rfl
theorem chr_bd {tx : List Int} (h : okTx tx) (p : Nat) : chr tx p = 0 ∨ (32 ≤ chr tx p ∧ chr tx p ≤ 126) := by
  by_cases hp : p < tx.length
  · right
    have : chr tx p = tx[p] := by
      unfold chr
      rw [List.getD_eq_getElem?_getD, List.getElem?_eq_getElem hp]
      rfl
    rw [this]
    exact h.2 _ (List.getElem_mem hp)
  · left
    exact chr_out (by omega)
theorem nar_char {x : Int} (h : 0 ≤ x ∧ x < 65536) : narrow .char (.int (iI x)) = .int (iI x) := by
  obtain ⟨k, rfl⟩ := Int.eq_ofNat_of_zero_le h.1
  rw [iI_nI]
  exact (pk_charN (by omega)).1
def dgs (tx : List Int) : Nat → Nat → Nat
  | 0, _ => 0
  | k + 1, p => if 48 ≤ chr tx p ∧ chr tx p ≤ 57 then dgs tx k (p + 1) + 1 else 0
def nval (tx : List Int) (p : Nat) : Nat → Int
  | 0 => 0
  | k + 1 => 10 * nval tx p k + (chr tx (p + k) - 48)
def tkRe (tx : List Int) (p : Nat) (sg : Int) : Int := if dgs tx 4 p = 0 then 1 else if chr tx (p + dgs tx 4 p) = sg then 0 else 2
def nx (tx : List Int) (p : Nat) : Nat := p + dgs tx 4 p + 1
def nv (tx : List Int) (p : Nat) : Int := nval tx p (dgs tx 4 p)
theorem dgs_le (tx : List Int) : ∀ k p, dgs tx k p ≤ k := by
  intro k
  induction k with
  | zero => intro p; exact Nat.le_refl _
  | succ k ih =>
    intro p
    simp only [dgs]
    split
    · have := ih (p + 1); omega
    · omega
theorem dgs_all (tx : List Int) : ∀ k p j, j < dgs tx k p → 48 ≤ chr tx (p + j) ∧ chr tx (p + j) ≤ 57 := by
  intro k
  induction k with
  | zero => intro p j hj; simp [dgs] at hj
  | succ k ih =>
    intro p j hj
    simp only [dgs] at hj
    split at hj
    · rename_i h
      cases j with
      | zero => exact h
      | succ j =>
        have := ih (p + 1) j (by omega)
        rw [show p + (j + 1) = p + 1 + j by omega]
        exact this
    · omega
theorem nval_bd (tx : List Int) (p : Nat) : ∀ k, (∀ j, j < k → 48 ≤ chr tx (p + j) ∧ chr tx (p + j) ≤ 57) → 0 ≤ nval tx p k ∧ nval tx p k < 10 ^ k := by
  intro k
  induction k with
  | zero => intro _; simp [nval]
  | succ k ih =>
    intro h
    have h1 := ih (fun j hj => h j (by omega))
    have h2 := h k (by omega)
    simp only [nval]
    rw [Int.pow_succ]
    generalize (10 : Int) ^ k = w at *
    omega
theorem nv_bd (tx : List Int) (p : Nat) : 0 ≤ nv tx p ∧ nv tx p ≤ 9999 := by
  have h := nval_bd tx p (dgs tx 4 p) (fun j hj => dgs_all tx 4 p j hj)
  have h2 := dgs_le tx 4 p
  unfold nv
  have : dgs tx 4 p = 0 ∨ dgs tx 4 p = 1 ∨ dgs tx 4 p = 2 ∨ dgs tx 4 p = 3 ∨ dgs tx 4 p = 4 := by omega
  rcases this with e | e | e | e | e <;> rw [e] at h ⊢ <;> simp at h <;> omega
def rRd (G : Gc) (E : Wd) (o : Nat) (sz pos rea nxt : Int) (b l r : Nat → Int) : Prop :=
  E o = some (.inr (7, [.ref (gb G + (o + 1)), .ref (gb G + (o + 2)), .ref (gb G + (o + 3)), .int (iI sz), .int (iI pos), .int (iI rea), .int (iI nxt)])) ∧ E (o + 1) = some (AI G 12 b) ∧ E (o + 2) = some (AI G 12 l) ∧ E (o + 3) = some (AI G 12 r)
theorem rRd.out {G : Gc} {E E' : Wd} {o : Nat} {sz pos rea nxt : Int} {b l r : Nat → Int} {x y : Nat} (h : rRd G E o sz pos rea nxt b l r) (hE : Out E E' x y) (hxy : o + 4 ≤ x ∨ y ≤ o) : rRd G E' o sz pos rea nxt b l r :=
  ⟨(hE _ (by omega)).trans h.1, (hE _ (by omega)).trans h.2.1, (hE _ (by omega)).trans h.2.2.1, (hE _ (by omega)).trans h.2.2.2⟩
end
section
/-! what the calls do, over the abstract state: the recorder, the history, the text -/
abbrev Fs : Type := Sg × List Sg × List Int
def k1 (L : List (Int × Int × Int)) (j : Nat) : Int := (L.getD j d3).1
def k2 (L : List (Int × Int × Int)) (j : Nat) : Int := (L.getD j d3).2.1
def k3 (L : List (Int × Int × Int)) (j : Nat) : Int := (L.getD j d3).2.2
def g1 (L : List (Int × Int)) (j : Nat) : Int := (L.getD j d2).1
def g2 (L : List (Int × Int)) (j : Nat) : Int := (L.getD j d2).2
def insI (L : List (Int × Int × Int)) (x : Int) : Nat := insP (k1 L) x L.length
def insL (L : List (Int × Int × Int)) (x : Int × Int × Int) : List (Int × Int × Int) := lst (insF (k1 L) (insI L x.1) L.length x.1) (insF (k2 L) (insI L x.1) L.length x.2.1) (insF (k3 L) (insI L x.1) L.length x.2.2) (L.length + 1)
def delL (L : List (Int × Int × Int)) (k : Nat) : List (Int × Int × Int) := lst (delF (k1 L) k L.length) (delF (k2 L) k L.length) (delF (k3 L) k L.length) (L.length - 1)
def delG (L : List (Int × Int)) (k : Nat) : List (Int × Int) := lst2 (delF (g1 L) k L.length) (delF (g2 L) k L.length) (L.length - 1)
theorem k_lst {b l r : Nat → Int} {m j : Nat} (h : j < m) : k1 (lst b l r m) j = b j ∧ k2 (lst b l r m) j = l j ∧ k3 (lst b l r m) j = r j := by
  unfold k1 k2 k3
  rw [lst_at h]
  exact ⟨rfl, rfl, rfl⟩
theorem g_lst {f s : Nat → Int} {m j : Nat} (h : j < m) : g1 (lst2 f s m) j = f j ∧ g2 (lst2 f s m) j = s j := by
  unfold g1 g2
  rw [lst2_at h]
  exact ⟨rfl, rfl⟩
theorem insP_ext {b b' : Nat → Int} {x : Int} : ∀ m, (∀ j, j < m → b j = b' j) → insP b x m = insP b' x m := by
  intro m
  induction m with
  | zero => intro _; rfl
  | succ m ih =>
    intro h
    simp only [insP]
    rw [ih (fun j hj => h j (by omega)), h m (by omega)]
theorem insI_lst {b l r : Nat → Int} {m : Nat} {x : Int} : insI (lst b l r m) x = insP b x m := by
  unfold insI
  rw [lst_len]
  exact insP_ext m (fun j hj => (k_lst hj).1)
theorem insF_ext {f g : Nat → Int} {p m j : Nat} {x : Int} (h : ∀ j, j < m → f j = g j) (hp : p ≤ m) (hj : j < m + 1) : insF f p m x j = insF g p m x j := by
  unfold insF
  by_cases h1 : j < p
  · rw [if_pos h1, if_pos h1, h j (by omega)]
  · rw [if_neg h1, if_neg h1]
    by_cases h2 : j = p
    · rw [if_pos h2, if_pos h2]
    · rw [if_neg h2, if_neg h2, if_pos (by omega), if_pos (by omega), h (j - 1) (by omega)]
theorem insL_lst {b l r : Nat → Int} {m : Nat} {x y w : Int} : insL (lst b l r m) (x, y, w) = lst (insF b (insP b x m) m x) (insF l (insP b x m) m y) (insF r (insP b x m) m w) (m + 1) := by
  unfold insL
  simp only [insI_lst, lst_len]
  have hp := insP_le b x m
  exact lst_ext (fun j hj => ⟨insF_ext (fun i hi => (k_lst hi).1) hp hj, insF_ext (fun i hi => (k_lst hi).2.1) hp hj, insF_ext (fun i hi => (k_lst hi).2.2) hp hj⟩)
theorem delF_ext {f g : Nat → Int} {k m j : Nat} (h : ∀ j, j < m → f j = g j) (hj : j < m - 1) : delF f k m j = delF g k m j := by
  unfold delF
  by_cases h1 : k ≤ j ∧ j + 1 < m
  · rw [if_pos h1, if_pos h1, h (j + 1) (by omega)]
  · rw [if_neg h1, if_neg h1, h j (by omega)]
theorem delL_lst {b l r : Nat → Int} {m k : Nat} : delL (lst b l r m) k = lst (delF b k m) (delF l k m) (delF r k m) (m - 1) := by
  unfold delL
  simp only [lst_len]
  exact lst_ext (fun j hj => ⟨delF_ext (fun i hi => (k_lst hi).1) hj, delF_ext (fun i hi => (k_lst hi).2.1) hj, delF_ext (fun i hi => (k_lst hi).2.2) hj⟩)
theorem delG_lst {f s : Nat → Int} {m k : Nat} : delG (lst2 f s m) k = lst2 (delF f k m) (delF s k m) (m - 1) := by
  unfold delG
  simp only [lst2_len]
  exact lst2_ext (fun j hj => ⟨delF_ext (fun i hi => (g_lst hi).1) hj, delF_ext (fun i hi => (g_lst hi).2) hj⟩)
theorem insL_mem {L : List (Int × Int × Int)} {x : Int × Int × Int} : ∀ z ∈ insL L x, z = x ∨ z ∈ L := by
  intro z hz
  unfold insL lst at hz
  obtain ⟨j, hj, rfl⟩ := List.mem_map.mp hz
  have hj := List.mem_range.mp hj
  have hp : insI L x.1 ≤ L.length := insP_le _ _ _
  have hm : ∀ i, i < L.length → (k1 L i, k2 L i, k3 L i) ∈ L := by
    intro i hi
    unfold k1 k2 k3
    rw [List.getD_eq_getElem?_getD, List.getElem?_eq_getElem hi]
    exact List.getElem_mem hi
  unfold insF
  by_cases h1 : j < insI L x.1
  · right
    simp only [if_pos h1]
    exact hm j (by omega)
  · by_cases h2 : j = insI L x.1
    · left
      simp only [if_neg h1, if_pos h2]
    · right
      simp only [if_neg h1, if_neg h2, if_pos (show j ≤ L.length by omega)]
      exact hm (j - 1) (by omega)
theorem insL_len {L : List (Int × Int × Int)} {x : Int × Int × Int} : (insL L x).length = L.length + 1 := by unfold insL; rw [lst_len]
theorem delL_mem {L : List (Int × Int × Int)} {k : Nat} : ∀ z ∈ delL L k, z ∈ L := by
  intro z hz
  unfold delL lst at hz
  obtain ⟨j, hj, rfl⟩ := List.mem_map.mp hz
  have hj := List.mem_range.mp hj
  have hm : ∀ i, i < L.length → (k1 L i, k2 L i, k3 L i) ∈ L := by
    intro i hi
    unfold k1 k2 k3
    rw [List.getD_eq_getElem?_getD, List.getElem?_eq_getElem hi]
    exact List.getElem_mem hi
  unfold delF
  by_cases h1 : k ≤ j ∧ j + 1 < L.length
  · simp only [if_pos h1]
    exact hm (j + 1) h1.2
  · simp only [if_neg h1]
    exact hm j (by omega)
theorem delL_len {L : List (Int × Int × Int)} {k : Nat} : (delL L k).length = L.length - 1 := by unfold delL; rw [lst_len]
theorem delG_mem {L : List (Int × Int)} {k : Nat} : ∀ z ∈ delG L k, z ∈ L := by
  intro z hz
  unfold delG lst2 at hz
  obtain ⟨j, hj, rfl⟩ := List.mem_map.mp hz
  have hj := List.mem_range.mp hj
  have hm : ∀ i, i < L.length → (g1 L i, g2 L i) ∈ L := by
    intro i hi
    unfold g1 g2
    rw [List.getD_eq_getElem?_getD, List.getElem?_eq_getElem hi]
    exact List.getElem_mem hi
  unfold delF
  by_cases h1 : k ≤ j ∧ j + 1 < L.length
  · simp only [if_pos h1]
    exact hm (j + 1) h1.2
  · simp only [if_neg h1]
    exact hm j (by omega)
theorem delG_len {L : List (Int × Int)} {k : Nat} : (delG L k).length = L.length - 1 := by unfold delG; rw [lst2_len]
/-! what always holds of the whole -/
def okX (Ψ : Fs) : Prop := ok Ψ.1 ∧ (Ψ.2.1.length ≤ 5 ∧ ∀ τ ∈ Ψ.2.1, ok τ) ∧ okTx Ψ.2.2
theorem ok_keep {hs : List Sg} {σ : Sg} (h : hs.length ≤ 5 ∧ ∀ τ ∈ hs, ok τ) (hσ : ok σ) : (keepH hs σ).length ≤ 5 ∧ ∀ τ ∈ keepH hs σ, ok τ := by
  unfold keepH
  refine ⟨?_, fun τ hτ => ?_⟩
  · rw [List.length_append, List.length_singleton]
    split
    · rw [List.length_tail]; omega
    · omega
  · rcases List.mem_append.mp hτ with h1 | h1
    · split at h1
      · exact h.2 τ (List.mem_of_mem_tail h1)
      · exact h.2 τ h1
    · rw [List.mem_singleton.mp h1]; exact hσ
/-- the class's object, its parts at their places -/
def isX (G : Gc) (E : Wd) (Ψ : Fs) : Prop :=
  E 0 = some (.inr (11, [.ref (gb G + 1), .ref (gb G + 17), .ref (gb G + 33), .ref (gb G + 115), .ref (gb G + 118), .ref (gb G + 120)])) ∧ isS G E 1 Ψ.1 ∧ (∃ τ, isS G E 17 τ) ∧ isH G E 33 Ψ.2.1 ∧ (∃ k lf dy, rOl G E 115 k lf dy) ∧ isTx G E 118 Ψ.2.2 ∧ (∃ sz pos rea nxt b l r, rRd G E 120 sz pos rea nxt b l r)
theorem isX.out {G : Gc} {E E' : Wd} {Ψ : Fs} {x y : Nat} (h : isX G E Ψ) (hE : Out E E' x y) (hxy : 124 ≤ x) : isX G E' Ψ := by
  obtain ⟨h0, h1, ⟨τ, h2⟩, h3, ⟨k, lf, dy, h4⟩, h5, ⟨sz, pos, rea, nxt, b, l, r, h6⟩⟩ := h
  exact ⟨(hE _ (by omega)).trans h0, h1.out hE (by omega), ⟨τ, h2.out hE (by omega)⟩, h3.out hE (by omega), ⟨k, lf, dy, h4.out hE (by omega)⟩, h5.out hE (by omega), ⟨sz, pos, rea, nxt, b, l, r, h6.out hE (by omega)⟩⟩
/-- all but the state at 1 and the history -/
def isXr (G : Gc) (E : Wd) (tx : List Int) : Prop :=
  E 0 = some (.inr (11, [.ref (gb G + 1), .ref (gb G + 17), .ref (gb G + 33), .ref (gb G + 115), .ref (gb G + 118), .ref (gb G + 120)])) ∧ (∃ τ, isS G E 17 τ) ∧ (∃ k lf dy, rOl G E 115 k lf dy) ∧ isTx G E 118 tx ∧ (∃ sz pos rea nxt b l r, rRd G E 120 sz pos rea nxt b l r)
theorem isX.split {G : Gc} {E : Wd} {Ψ : Fs} (h : isX G E Ψ) : isXr G E Ψ.2.2 ∧ isS G E 1 Ψ.1 ∧ isH G E 33 Ψ.2.1 := ⟨⟨h.1, h.2.2.1, h.2.2.2.2.1, h.2.2.2.2.2.1, h.2.2.2.2.2.2⟩, h.2.1, h.2.2.2.1⟩
theorem isX.join {G : Gc} {E : Wd} {σ : Sg} {hs : List Sg} {tx : List Int} (h : isXr G E tx) (h1 : isS G E 1 σ) (h2 : isH G E 33 hs) : isX G E (σ, hs, tx) := ⟨h.1, h1, h.2.1, h2, h.2.2.1, h.2.2.2.1, h.2.2.2.2⟩
theorem isXr.out {G : Gc} {E E' : Wd} {tx : List Int} {x y : Nat} (h : isXr G E tx) (hE : Out E E' x y) (hxy : (1 ≤ x ∧ y ≤ 17) ∨ (33 ≤ x ∧ y ≤ 115)) : isXr G E' tx := by
  obtain ⟨h0, ⟨τ, h2⟩, ⟨k, lf, dy, h4⟩, h5, ⟨sz, pos, rea, nxt, b, l, r, h6⟩⟩ := h
  exact ⟨(hE _ (by omega)).trans h0, ⟨τ, h2.out hE (by omega)⟩, ⟨k, lf, dy, h4.out hE (by omega)⟩, h5.out hE (by omega), ⟨sz, pos, rea, nxt, b, l, r, h6.out hE (by omega)⟩⟩
theorem isH.obj {G : Gc} {E : Wd} {o : Nat} {hs : List Sg} (h : isH G E o hs) : E o = some (.inr (4, [.ref (gb G + (o + 1)), .int (iI (hs.length : Int))])) := by
  obtain ⟨a, h⟩ := h
  exact h.1
end
section
/-! the class's public methods: first the ones about rain and the recorder -/
def vAdd (Ψ : Fs) (b l r : Int) : Int := if ¬ (Ψ.1.1 0 ≤ b ∧ b ≤ 5000) ∨ ¬ (1 ≤ l ∧ l ≤ 500) ∨ ¬ (1 ≤ r ∧ r ≤ 200) then -1 else if 12 ≤ Ψ.1.2.1.length then -3 else (insI Ψ.1.2.1 b : Int)
def sAdd (Ψ : Fs) (b l r : Int) : Fs := if ¬ (Ψ.1.1 0 ≤ b ∧ b ≤ 5000) ∨ ¬ (1 ≤ l ∧ l ≤ 500) ∨ ¬ (1 ≤ r ∧ r ≤ 200) then Ψ else if 12 ≤ Ψ.1.2.1.length then Ψ else ((Ψ.1.1, insL Ψ.1.2.1 (b, l, r), Ψ.1.2.2.1, Ψ.1.2.2.2), keepH Ψ.2.1 Ψ.1, Ψ.2.2)
set_option maxRecDepth 100000 in
set_option maxHeartbeats 4000000 in
theorem c_addShower (lc : Launch) (G : Gc) (E : Wd) (nh : Nat) {Ψ : Fs} {b0 l0 r0 : Int} (h : isX G E Ψ) (hk : okX Ψ) (hb0 : -2147483648 ≤ b0 ∧ b0 < 2147483648) (hl0 : -2147483648 ≤ l0 ∧ l0 < 2147483648) (hr0 : -2147483648 ≤ r0 ∧ r0 < 2147483648) : CI lc G 5 yX11_addShower cX11_addShower 4 .int [.ref (gb G + 0), .int (iI b0), .int (iI l0), .int (iI r0)] E nh 0 0 (fun w E' => w = vAdd Ψ b0 l0 r0 ∧ isX G E' (sAdd Ψ b0 l0 r0) ∧ Out E E' 0 124) := by
  refine CI.mk (by decide +kernel) rfl (Nat.le_of_ble_eq_true rfl) ?_
  intro X hG hL cx hR hI
  subst hG; subst hL
  show V X E (nh, 0, 0) 0 [some (.ref (gb (fG X) + 0)), some (.int (iI b0)), some (.int (iI l0)), some (.int (iI r0))] []
  obtain ⟨⟨s, sh, ge, mk⟩, hs, tx⟩ := Ψ
  have hX := h
  obtain ⟨hxr, hS, hH⟩ := h.split
  obtain ⟨⟨hsc, hse, hsh, hge, hmk⟩, -, -⟩ := hk
  simp only at hsc hse hsh hge hmk hS hH hxr
  obtain ⟨st, n, b, l, r, fc, fd, B, cr, cn, ng, gf, gs, nm, t, p, v, tk, fell, ⟨s0, s1, s2, s3, s4, s5, s6, s7⟩, q1, q2, q3, q4, q5, q6, q7, ⟨q8, q8n⟩, ⟨q9, q9n⟩, q10, q11⟩ := id hS
  simp only at q1 q2 q4 q5 q6 q7 q8 q9 q10 q11
  subst q2; subst q10
  have hx0 := hxr.1
  have ht0 := hsc.1
  have hH0 := hH.obj
  have bad : (¬ (s 0 ≤ b0 ∧ b0 ≤ 5000) ∨ ¬ (1 ≤ l0 ∧ l0 ≤ 500) ∨ ¬ (1 ≤ r0 ∧ r0 ≤ 200)) → V X E (nh, 0, 0) 39 [some (.ref (gb (fG X) + 0)), some (.int (iI b0)), some (.int (iI l0)), some (.int (iI r0))] [] := by
    intro hb
    refine v_iconst (pc := 39) cx dX11_addShower_39 ?_
    refine v_ireturn (pc := 40) cx hI rfl ?_ dX11_addShower_40
    unfold vAdd sAdd
    rw [if_pos hb, if_pos hb]
    exact ⟨rfl, hX, fun _ _ => rfl⟩
  refine v_iload_n (pc := 0) cx rfl ga1 dX11_addShower_0 ?_
  refine v_aload_n (pc := 1) cx rfl ga0 dX11_addShower_1 ?_
  refine v_getfield (pc := 2) cx flX11_10 (by assumption) gf0 dX11_addShower_2 ?_
  refine v_getfield (pc := 5) cx flX11_47 (by assumption) gf7 dX11_addShower_5 ?_
  refine v_sipush (pc := 8) cx (by decide) dX11_addShower_8 ?_
  refine v_callSI (pc := 11) cx hR (c_isWithin _ _ _ _ (by omega)) mlX11_51 (by decide) rfl (Nat.le_of_ble_eq_true rfl) ⟨Nat.le_refl _, Nat.le_refl _⟩ dX11_addShower_11 (fun r1 E1 hP => ?_)
  obtain ⟨w1, rfl⟩ := hP
  refine v_if_eq (pc := 14) cx 39 dX11_addShower_14 rfl (by omega) (fun c14 => ?_) (fun c14 => ?_)
  · exact bad (Or.inl (by omega))
  · refine v_iload_n (pc := 17) cx rfl ga2 dX11_addShower_17 ?_
    refine v_iconst (pc := 18) cx dX11_addShower_18 ?_
    refine v_sipush (pc := 19) cx (by decide) dX11_addShower_19 ?_
    refine v_callSI (pc := 22) cx hR (c_isWithin _ _ _ _ (by omega)) mlX11_51 (by decide) rfl (Nat.le_of_ble_eq_true rfl) ⟨Nat.le_refl _, Nat.le_refl _⟩ dX11_addShower_22 (fun r2 E2 hP => ?_)
    obtain ⟨w2, rfl⟩ := hP
    refine v_if_eq (pc := 25) cx 39 dX11_addShower_25 rfl (by omega) (fun c25 => ?_) (fun c25 => ?_)
    · exact bad (Or.inr (Or.inl (by omega)))
    · refine v_iload_n (pc := 28) cx rfl ga3 dX11_addShower_28 ?_
      refine v_iconst (pc := 29) cx dX11_addShower_29 ?_
      refine v_sipush (pc := 30) cx (by decide) dX11_addShower_30 ?_
      refine v_callSI (pc := 33) cx hR (c_isWithin _ _ _ _ (by omega)) mlX11_51 (by decide) rfl (Nat.le_of_ble_eq_true rfl) ⟨Nat.le_refl _, Nat.le_refl _⟩ dX11_addShower_33 (fun r3 E3 hP => ?_)
      obtain ⟨w3, rfl⟩ := hP
      refine v_if_ne (pc := 36) cx 41 dX11_addShower_36 rfl (by omega) (fun c36 => ?_) (fun c36 => ?_)
      · have hg : ¬ (¬ (s 0 ≤ b0 ∧ b0 ≤ 5000) ∨ ¬ (1 ≤ l0 ∧ l0 ≤ 500) ∨ ¬ (1 ≤ r0 ∧ r0 ≤ 200)) := by omega
        have s20 := s2.1
        refine v_aload_n (pc := 41) cx rfl ga0 dX11_addShower_41 ?_
        refine v_getfield (pc := 42) cx flX11_10 (by assumption) gf0 dX11_addShower_42 ?_
        refine v_getfield (pc := 45) cx flX11_55 (by assumption) gf1 dX11_addShower_45 ?_
        refine v_getfield (pc := 48) cx flX11_59 (by assumption) gf3 dX11_addShower_48 ?_
        refine v_bipush (pc := 51) cx (by decide) dX11_addShower_51 ?_
        refine v_icmp_lt (pc := 53) cx 59 dX11_addShower_53 rfl (by omega) (fun c53 => ?_) (fun c53 => ?_)
        · refine v_aload_n (pc := 59) cx rfl ga0 dX11_addShower_59 ?_
          refine v_getfield (pc := 60) cx flX11_22 (by assumption) gf2 dX11_addShower_60 ?_
          refine v_aload_n (pc := 63) cx rfl ga0 dX11_addShower_63 ?_
          refine v_getfield (pc := 64) cx flX11_10 (by assumption) gf0 dX11_addShower_64 ?_
          refine v_callVV (pc := 67) cx hR (c_Hi_keep _ _ _ _ hH hS (by omega)) mlX11_64 (by decide) (by assumption) rfl rfl rfl (Nat.le_of_ble_eq_true rfl) ⟨Nat.le_refl _, Nat.le_refl _⟩ dX11_addShower_67 (fun E4 hP => ?_)
          obtain ⟨hH4, hF⟩ := hP
          have hxr4 := hxr.out hF (by omega)
          replace s2 := s2.out (hF) (by omega)
          replace s6 := s6.out (hF) (by omega)
          replace s7 := s7.out (hF) (by omega)
          replace s0 := ((hF) _ (by omega)).trans s0
          replace s1 := ((hF) _ (by omega)).trans s1
          replace s3 := ((hF) _ (by omega)).trans s3
          replace s4 := ((hF) _ (by omega)).trans s4
          replace s5 := ((hF) _ (by omega)).trans s5
          have hx4 := hxr4.1
          have s20 := s2.1
          refine v_aload_n (pc := 70) cx rfl ga0 dX11_addShower_70 ?_
          refine v_getfield (pc := 71) cx flX11_10 (by assumption) gf0 dX11_addShower_71 ?_
          refine v_getfield (pc := 74) cx flX11_55 (by assumption) gf1 dX11_addShower_74 ?_
          refine v_iload_n (pc := 77) cx rfl ga1 dX11_addShower_77 ?_
          refine v_iload_n (pc := 78) cx rfl ga2 dX11_addShower_78 ?_
          refine v_iload_n (pc := 79) cx rfl ga3 dX11_addShower_79 ?_
          refine v_callVI (pc := 80) cx hR (c_Sh_insert _ _ _ _ s2 (by omega) hb0 (fun j hj => by have := okSh_at hsh j hj; omega)) mlX11_68 (by decide) (by assumption) rfl rfl rfl (Nat.le_of_ble_eq_true rfl) ⟨Nat.le_refl _, Nat.le_refl _⟩ dX11_addShower_80 (fun v5 E5 hP => ?_)
          obtain ⟨rfl, s2', hF5⟩ := hP
          have hxr5 := hxr4.out hF5 (by omega)
          refine v_ireturn (pc := 83) cx hI rfl ?_ dX11_addShower_83
          unfold vAdd sAdd
          rw [if_neg hg, if_neg hg]
          simp only [lst_len]
          rw [if_neg (by omega), if_neg (by omega), insI_lst, insL_lst]
          have hip := insP_le b b0 n
          refine ⟨rfl, isX.join hxr5 ⟨st, n + 1, _, _, _, fc, fd, B, cr, cn, ng, gf, gs, nm, t, p, v, s 0, fell, ⟨(hF5 _ (by omega)).trans s0, (hF5 _ (by omega)).trans s1, s2', (hF5 _ (by omega)).trans s3, (hF5 _ (by omega)).trans s4, (hF5 _ (by omega)).trans s5, s6.out hF5 (by omega), s7.out hF5 (by omega)⟩, q1, rfl, by omega, q4, q5, q6, q7, ⟨q8, q8n⟩, ⟨q9, q9n⟩, rfl, q11⟩ (hH4.out hF5 (by omega)), fun j hj => (hF5 j (by omega)).trans (hF j (by omega))⟩
        · refine v_bipush (pc := 56) cx (by decide) dX11_addShower_56 ?_
          refine v_ireturn (pc := 58) cx hI rfl ?_ dX11_addShower_58
          unfold vAdd sAdd
          rw [if_neg hg, if_neg hg]
          simp only [lst_len]
          rw [if_pos (by omega), if_pos (by omega)]
          exact ⟨rfl, hX, fun _ _ => rfl⟩
      · exact bad (Or.inr (Or.inr (by omega)))
def vCan (Ψ : Fs) (k : Int) : Int := if ¬ (0 ≤ k ∧ k < Ψ.1.2.1.length) then -1 else if k1 Ψ.1.2.1 k.toNat < Ψ.1.1 0 then -2 else (Ψ.1.2.1.length : Int) - 1
def sCan (Ψ : Fs) (k : Int) : Fs := if ¬ (0 ≤ k ∧ k < Ψ.1.2.1.length) then Ψ else if k1 Ψ.1.2.1 k.toNat < Ψ.1.1 0 then Ψ else ((Ψ.1.1, delL Ψ.1.2.1 k.toNat, Ψ.1.2.2.1, Ψ.1.2.2.2), keepH Ψ.2.1 Ψ.1, Ψ.2.2)
def vSho (Ψ : Fs) (k w : Int) : Int := if ¬ (0 ≤ k ∧ k < Ψ.1.2.1.length) ∨ ¬ (0 ≤ w ∧ w ≤ 3) then -1 else if w = 0 then k1 Ψ.1.2.1 k.toNat else if w = 1 then k2 Ψ.1.2.1 k.toNat else if w = 2 then k3 Ψ.1.2.1 k.toNat else k1 Ψ.1.2.1 k.toNat + k2 Ψ.1.2.1 k.toNat - max (k1 Ψ.1.2.1 k.toNat) (Ψ.1.1 0)
set_option maxRecDepth 100000 in
set_option maxHeartbeats 4000000 in
theorem c_shower (lc : Launch) (G : Gc) (E : Wd) (nh : Nat) {Ψ : Fs} {k w : Int} (h : isX G E Ψ) (hk : okX Ψ) (hb0 : -2147483648 ≤ k ∧ k < 2147483648) (hw : -2147483648 ≤ w ∧ w < 2147483648) : CI lc G 5 yX11_shower cX11_shower 3 .int [.ref (gb G + 0), .int (iI k), .int (iI w)] E nh 0 0 (fun r E' => r = vSho Ψ k w ∧ E' = E) := by
  refine CI.mk (by decide +kernel) rfl (Nat.le_of_ble_eq_true rfl) ?_
  intro X hG hL cx hR hI
  subst hG; subst hL
  show V X E (nh, 0, 0) 0 [some (.ref (gb (fG X) + 0)), some (.int (iI k)), some (.int (iI w))] []
  obtain ⟨⟨s, sh, ge, mk⟩, hs, tx⟩ := Ψ
  obtain ⟨hxr, hS, hH⟩ := h.split
  obtain ⟨⟨hsc, hse, hsh, hge, hmk⟩, -, -⟩ := hk
  simp only at hsc hse hsh hge hmk hS hH hxr
  obtain ⟨st, n, b, l, r, fc, fd, B, cr, cn, ng, gf, gs, nm, t, p, v, tk, fell, ⟨s0, s1, s2, s3, s4, s5, s6, s7⟩, q1, q2, q3, q4, q5, q6, q7, ⟨q8, q8n⟩, ⟨q9, q9n⟩, q10, q11⟩ := id hS
  simp only at q1 q2 q4 q5 q6 q7 q8 q9 q10 q11
  subst q2; subst q10
  have hx0 := hxr.1
  have ht0 := hsc.1
  obtain ⟨s20, s21, s22, s23⟩ := id s2
  refine v_aload_n (pc := 0) cx rfl ga0 dX11_shower_0 ?_
  refine v_getfield (pc := 1) cx flX11_10 (by assumption) gf0 dX11_shower_1 ?_
  refine v_getfield (pc := 4) cx flX11_55 (by assumption) gf1 dX11_shower_4 ?_
  refine v_iload_n (pc := 7) cx rfl ga1 dX11_shower_7 ?_
  refine v_callVI (pc := 8) cx hR (c_Sh_has _ _ _ _ s2 (by omega) hb0) mlX11_72 (by decide) (by assumption) rfl rfl rfl (Nat.le_of_ble_eq_true rfl) ⟨Nat.le_refl _, Nat.le_refl _⟩ dX11_shower_8 (fun r1 E1 hP => ?_)
  obtain ⟨w1, rfl⟩ := hP
  refine v_if_ne (pc := 11) cx 16 dX11_shower_11 rfl (by omega) (fun c11 => ?_) (fun c11 => ?_)
  · obtain ⟨kn, rfl⟩ := Int.eq_ofNat_of_zero_le (show 0 ≤ k by omega)
    have hbk := okSh_at hsh kn (by omega)
    have e := k_lst (b := b) (l := l) (r := r) (show kn < n by omega)
    refine v_iload_n (pc := 16) cx rfl ga2 dX11_shower_16 ?_
    rcases (show w = 0 ∨ w = 1 ∨ w = 2 ∨ w = 3 ∨ (w < 0 ∨ 3 < w) by omega) with rfl | rfl | rfl | rfl | hw2
    · refine v_tableIn (pc := 17) cx 48 dX11_shower_17 (by omega) rfl rfl ?_
      refine v_aload_n (pc := 48) cx rfl ga0 dX11_shower_48 ?_
      refine v_getfield (pc := 49) cx flX11_10 (by assumption) gf0 dX11_shower_49 ?_
      refine v_getfield (pc := 52) cx flX11_55 (by assumption) gf1 dX11_shower_52 ?_
      refine v_getfield (pc := 55) cx flX11_76 (by assumption) gf0 dX11_shower_55 ?_
      refine v_iload_n (pc := 58) cx rfl ga1 dX11_shower_58 ?_
      refine v_iaload (pc := 59) cx (kn) (by assumption) (by omega) dX11_shower_59 ?_
      refine v_ireturn (pc := 60) cx hI rfl ?_ dX11_shower_60
      refine ⟨?_, rfl⟩
      unfold vSho
      simp only [lst_len, Int.toNat_natCast, e.1, e.2.1, e.2.2]
      rw [if_neg (by omega)]
      rfl
    · refine v_tableIn (pc := 17) cx 61 dX11_shower_17 (by omega) rfl rfl ?_
      refine v_aload_n (pc := 61) cx rfl ga0 dX11_shower_61 ?_
      refine v_getfield (pc := 62) cx flX11_10 (by assumption) gf0 dX11_shower_62 ?_
      refine v_getfield (pc := 65) cx flX11_55 (by assumption) gf1 dX11_shower_65 ?_
      refine v_getfield (pc := 68) cx flX11_84 (by assumption) gf1 dX11_shower_68 ?_
      refine v_iload_n (pc := 71) cx rfl ga1 dX11_shower_71 ?_
      refine v_iaload (pc := 72) cx (kn) (by assumption) (by omega) dX11_shower_72 ?_
      refine v_ireturn (pc := 73) cx hI rfl ?_ dX11_shower_73
      refine ⟨?_, rfl⟩
      unfold vSho
      simp only [lst_len, Int.toNat_natCast, e.1, e.2.1, e.2.2]
      rw [if_neg (by omega)]
      rfl
    · refine v_tableIn (pc := 17) cx 74 dX11_shower_17 (by omega) rfl rfl ?_
      refine v_aload_n (pc := 74) cx rfl ga0 dX11_shower_74 ?_
      refine v_getfield (pc := 75) cx flX11_10 (by assumption) gf0 dX11_shower_75 ?_
      refine v_getfield (pc := 78) cx flX11_55 (by assumption) gf1 dX11_shower_78 ?_
      refine v_getfield (pc := 81) cx flX11_87 (by assumption) gf2 dX11_shower_81 ?_
      refine v_iload_n (pc := 84) cx rfl ga1 dX11_shower_84 ?_
      refine v_iaload (pc := 85) cx (kn) (by assumption) (by omega) dX11_shower_85 ?_
      refine v_ireturn (pc := 86) cx hI rfl ?_ dX11_shower_86
      refine ⟨?_, rfl⟩
      unfold vSho
      simp only [lst_len, Int.toNat_natCast, e.1, e.2.1, e.2.2]
      rw [if_neg (by omega)]
      rfl
    · refine v_tableIn (pc := 17) cx 87 dX11_shower_17 (by omega) rfl rfl ?_
      refine v_aload_n (pc := 87) cx rfl ga0 dX11_shower_87 ?_
      refine v_getfield (pc := 88) cx flX11_10 (by assumption) gf0 dX11_shower_88 ?_
      refine v_getfield (pc := 91) cx flX11_55 (by assumption) gf1 dX11_shower_91 ?_
      refine v_iload_n (pc := 94) cx rfl ga1 dX11_shower_94 ?_
      refine v_aload_n (pc := 95) cx rfl ga0 dX11_shower_95 ?_
      refine v_getfield (pc := 96) cx flX11_10 (by assumption) gf0 dX11_shower_96 ?_
      refine v_getfield (pc := 99) cx flX11_47 (by assumption) gf7 dX11_shower_99 ?_
      refine v_callVI (pc := 102) cx hR (c_Sh_ticksToCome _ _ _ _ s2 (by omega) (by omega) (by omega) (fun j hj => ⟨(okSh_at hsh j hj).1, (okSh_at hsh j hj).2.1⟩)) mlX11_90 (by decide) (by assumption) rfl rfl rfl (Nat.le_of_ble_eq_true rfl) ⟨Nat.le_refl _, Nat.le_refl _⟩ dX11_shower_102 (fun v5 E5 hP => ?_)
      obtain ⟨rfl, rfl⟩ := hP
      refine v_ireturn (pc := 105) cx hI rfl ?_ dX11_shower_105
      refine ⟨?_, rfl⟩
      unfold vSho
      simp only [lst_len, Int.toNat_natCast, e.1, e.2.1, e.2.2]
      rw [if_neg (by omega)]
      rfl
    · refine v_tableOut (pc := 17) cx 106 dX11_shower_17 (by omega) rfl ?_
      refine v_iconst (pc := 106) cx dX11_shower_106 ?_
      refine v_ireturn (pc := 107) cx hI rfl ?_ dX11_shower_107
      refine ⟨?_, rfl⟩
      unfold vSho
      simp only [lst_len]
      rw [if_pos (by omega)]
  · refine v_iconst (pc := 14) cx dX11_shower_14 ?_
    refine v_ireturn (pc := 15) cx hI rfl ?_ dX11_shower_15
    refine ⟨?_, rfl⟩
    unfold vSho
    simp only [lst_len]
    rw [if_pos (by omega)]
def eTk (Ψ : Fs) (k : Int) : Int := if ¬ (1 ≤ k ∧ k ≤ 1000) then -1 else if 5000 < Ψ.1.1 0 + k then -3 else 0
set_option maxRecDepth 100000 in
set_option maxHeartbeats 4000000 in
theorem c_errorOfTicks (lc : Launch) (G : Gc) (E : Wd) (nh : Nat) {Ψ : Fs} {k : Int} (h : isX G E Ψ) (hk : okX Ψ) (hb0 : -2147483648 ≤ k ∧ k < 2147483648) : CI lc G 1 yX11_errorOfTicks cX11_errorOfTicks 2 .int [.ref (gb G + 0), .int (iI k)] E nh 0 0 (fun r E' => r = eTk Ψ k ∧ E' = E) := by
  refine CI.mk (by decide +kernel) rfl (Nat.le_of_ble_eq_true rfl) ?_
  intro X hG hL cx hR hI
  subst hG; subst hL
  show V X E (nh, 0, 0) 0 [some (.ref (gb (fG X) + 0)), some (.int (iI k))] []
  obtain ⟨⟨s, sh, ge, mk⟩, hs, tx⟩ := Ψ
  obtain ⟨hxr, hS, hH⟩ := h.split
  obtain ⟨⟨hsc, hse, hsh, hge, hmk⟩, -, -⟩ := hk
  simp only at hsc hse hsh hge hmk hS hH hxr
  obtain ⟨st, n, b, l, r, fc, fd, B, cr, cn, ng, gf, gs, nm, t, p, v, tk, fell, ⟨s0, s1, s2, s3, s4, s5, s6, s7⟩, q1, q2, q3, q4, q5, q6, q7, ⟨q8, q8n⟩, ⟨q9, q9n⟩, q10, q11⟩ := id hS
  simp only at q10
  subst q10
  have hx0 := hxr.1
  have ht0 := hsc.1
  refine v_iload_n (pc := 0) cx rfl ga1 dX11_errorOfTicks_0 ?_
  refine v_iconst (pc := 1) cx dX11_errorOfTicks_1 ?_
  refine v_sipush (pc := 2) cx (by decide) dX11_errorOfTicks_2 ?_
  refine v_callSI (pc := 5) cx hR (c_isWithin _ _ _ _ (by omega)) mlX11_51 (by decide) rfl (Nat.le_of_ble_eq_true rfl) ⟨Nat.le_refl _, Nat.le_refl _⟩ dX11_errorOfTicks_5 (fun r1 E1 hP => ?_)
  obtain ⟨w1, rfl⟩ := hP
  refine v_if_ne (pc := 8) cx 13 dX11_errorOfTicks_8 rfl (by omega) (fun c8 => ?_) (fun c8 => ?_)
  · refine v_aload_n (pc := 13) cx rfl ga0 dX11_errorOfTicks_13 ?_
    refine v_getfield (pc := 14) cx flX11_10 (by assumption) gf0 dX11_errorOfTicks_14 ?_
    refine v_getfield (pc := 17) cx flX11_47 (by assumption) gf7 dX11_errorOfTicks_17 ?_
    refine v_iload_n (pc := 20) cx rfl ga1 dX11_errorOfTicks_20 ?_
    refine v_iadd (pc := 21) cx dX11_errorOfTicks_21 ?_
    refine v_sipush (pc := 22) cx (by decide) dX11_errorOfTicks_22 ?_
    refine v_icmp_le (pc := 25) cx 33 dX11_errorOfTicks_25 rfl (by omega) (fun c25 => ?_) (fun c25 => ?_)
    · refine v_iconst (pc := 33) cx dX11_errorOfTicks_33 ?_
      refine v_ireturn (pc := 34) cx hI rfl ?_ dX11_errorOfTicks_34
      refine ⟨?_, rfl⟩
      unfold eTk
      simp only
      rw [if_neg (by omega), if_neg (by omega)]
    · refine v_bipush (pc := 28) cx (by decide) dX11_errorOfTicks_28 ?_
      refine v_goto (pc := 30) cx 34 dX11_errorOfTicks_30 rfl ?_
      refine v_ireturn (pc := 34) cx hI rfl ?_ dX11_errorOfTicks_34
      refine ⟨?_, rfl⟩
      unfold eTk
      simp only
      rw [if_neg (by omega), if_pos (by omega)]
  · refine v_iconst (pc := 11) cx dX11_errorOfTicks_11 ?_
    refine v_ireturn (pc := 12) cx hI rfl ?_ dX11_errorOfTicks_12
    refine ⟨?_, rfl⟩
    unfold eTk
    rw [if_pos (by omega)]
theorem eTk_0 {Ψ : Fs} {k : Int} (h : eTk Ψ k = 0) : 1 ≤ k ∧ k ≤ 1000 ∧ Ψ.1.1 0 + k ≤ 5000 := by
  unfold eTk at h
  split at h
  · omega
  · split at h <;> omega
theorem eTk_bd {Ψ : Fs} {k : Int} : -3 ≤ eTk Ψ k ∧ eTk Ψ k ≤ 0 := by
  unfold eTk
  split
  · omega
  · split <;> omega
def vRun (Ψ : Fs) (k : Int) : Int := if eTk Ψ k = 0 then (tips Ψ.1 k.toNat : Int) else eTk Ψ k
def sRun (Ψ : Fs) (k : Int) : Fs := if eTk Ψ k = 0 then (ticks Ψ.1 k.toNat, keepH Ψ.2.1 Ψ.1, Ψ.2.2) else Ψ
set_option maxRecDepth 100000 in
set_option maxHeartbeats 4000000 in
theorem c_run (lc : Launch) (G : Gc) (E : Wd) (nh : Nat) {Ψ : Fs} {k : Int} (h : isX G E Ψ) (hk : okX Ψ) (hb0 : -2147483648 ≤ k ∧ k < 2147483648) : CI lc G 5 yX11_run cX11_run 3 .int [.ref (gb G + 0), .int (iI k)] E nh 0 0 (fun w E' => w = vRun Ψ k ∧ isX G E' (sRun Ψ k) ∧ Out E E' 0 124) := by
  refine CI.mk (by decide +kernel) rfl (Nat.le_of_ble_eq_true rfl) ?_
  intro X hG hL cx hR hI
  subst hG; subst hL
  show V X E (nh, 0, 0) 0 [some (.ref (gb (fG X) + 0)), some (.int (iI k)), none] []
  have hX := h
  obtain ⟨hxr, hS, hH⟩ := h.split
  have hx0 := hxr.1
  have hH0 := hH.obj
  obtain ⟨fs, hfs⟩ := hS.obj
  have hed := eTk_bd (Ψ := Ψ) (k := k)
  refine v_aload_n (pc := 0) cx rfl ga0 dX11_run_0 ?_
  refine v_iload_n (pc := 1) cx rfl ga1 dX11_run_1 ?_
  refine v_callVI (pc := 2) cx hR (c_errorOfTicks _ _ _ _ h hk hb0) mlX11_94 (by decide) (by assumption) rfl rfl rfl (Nat.le_of_ble_eq_true rfl) ⟨Nat.le_refl _, Nat.le_refl _⟩ dX11_run_2 (fun r1 E1 hP => ?_)
  obtain ⟨rfl, rfl⟩ := hP
  refine v_istore_n (pc := 5) cx rfl (sa2 rfl) dX11_run_5 ?_
  refine v_iload_n (pc := 6) cx rfl ga2 dX11_run_6 ?_
  refine v_if_eq (pc := 7) cx 12 dX11_run_7 rfl (by omega) (fun c7 => ?_) (fun c7 => ?_)
  · obtain ⟨e1, e2, e3⟩ := eTk_0 (by assumption)
    obtain ⟨kn, rfl⟩ := Int.eq_ofNat_of_zero_le (show 0 ≤ k by omega)
    refine v_aload_n (pc := 12) cx rfl ga0 dX11_run_12 ?_
    refine v_getfield (pc := 13) cx flX11_22 (by assumption) gf2 dX11_run_13 ?_
    refine v_aload_n (pc := 16) cx rfl ga0 dX11_run_16 ?_
    refine v_getfield (pc := 17) cx flX11_10 (by assumption) gf0 dX11_run_17 ?_
    refine v_callVV (pc := 20) cx hR (c_Hi_keep _ _ _ _ hH hS (by omega)) mlX11_64 (by decide) (by assumption) rfl rfl rfl (Nat.le_of_ble_eq_true rfl) ⟨Nat.le_refl _, Nat.le_refl _⟩ dX11_run_20 (fun E4 hP => ?_)
    obtain ⟨hH4, hF⟩ := hP
    have hxr4 := hxr.out hF (by omega)
    have hS4 := hS.out hF (by omega)
    have hx4 := hxr4.1
    obtain ⟨fs4, hfs4⟩ := hS4.obj
    refine v_aload_n (pc := 23) cx rfl ga0 dX11_run_23 ?_
    refine v_getfield (pc := 24) cx flX11_10 (by assumption) gf0 dX11_run_24 ?_
    refine v_iload_n (pc := 27) cx rfl ga1 dX11_run_27 ?_
    refine v_callVI (pc := 28) cx hR (c_St_passTicks _ _ _ _ hS4 hk.1 (by omega) (by omega)) mlX11_98 (by decide) (by assumption) rfl rfl rfl (Nat.le_of_ble_eq_true rfl) ⟨Nat.le_refl _, Nat.le_refl _⟩ dX11_run_28 (fun v5 E5 hP => ?_)
    obtain ⟨rfl, hS5, hF5⟩ := hP
    refine v_ireturn (pc := 31) cx hI rfl ?_ dX11_run_31
    unfold vRun sRun
    rw [if_pos (by assumption), if_pos (by assumption), Int.toNat_natCast]
    exact ⟨rfl, isX.join (hxr4.out hF5 (by omega)) hS5 (hH4.out hF5 (by omega)), fun j hj => (hF5 j (by omega)).trans (hF j (by omega))⟩
  · refine v_iload_n (pc := 10) cx rfl ga2 dX11_run_10 ?_
    refine v_ireturn (pc := 11) cx hI rfl ?_ dX11_run_11
    unfold vRun sRun
    rw [if_neg (by assumption), if_neg (by assumption)]
    exact ⟨rfl, hX, fun _ _ => rfl⟩
def vUnd (Ψ : Fs) : Int := if Ψ.2.1.length = 0 then -2 else (Ψ.2.1.length : Int) - 1
def sUnd (Ψ : Fs) : Fs := match Ψ.2.1.getLast? with
  | none => Ψ
  | some τ => (τ, Ψ.2.1.dropLast, Ψ.2.2)
set_option maxRecDepth 100000 in
set_option maxHeartbeats 4000000 in
theorem c_undo (lc : Launch) (G : Gc) (E : Wd) (nh : Nat) {Ψ : Fs} (h : isX G E Ψ) (hk : okX Ψ) : CI lc G 5 yX11_undo cX11_undo 1 .int [.ref (gb G + 0)] E nh 0 0 (fun w E' => w = vUnd Ψ ∧ isX G E' (sUnd Ψ) ∧ Out E E' 0 124) := by
  refine CI.mk (by decide +kernel) rfl (Nat.le_of_ble_eq_true rfl) ?_
  intro X hG hL cx hR hI
  subst hG; subst hL
  show V X E (nh, 0, 0) 0 [some (.ref (gb (fG X) + 0))] []
  obtain ⟨σ, hs, tx⟩ := Ψ
  have hX := h
  obtain ⟨hxr, hS, hH⟩ := h.split
  simp only at hS hH hxr
  have hx0 := hxr.1
  have hH0 := hH.obj
  obtain ⟨fs, hfs⟩ := hS.obj
  have hl5 := hk.2.1.1
  simp only at hl5
  refine v_aload_n (pc := 0) cx rfl ga0 dX11_undo_0 ?_
  refine v_getfield (pc := 1) cx flX11_22 (by assumption) gf2 dX11_undo_1 ?_
  refine v_getfield (pc := 4) cx flX11_101 (by assumption) gf1 dX11_undo_4 ?_
  refine v_if_ne (pc := 7) cx 13 dX11_undo_7 rfl (by omega) (fun c7 => ?_) (fun c7 => ?_)
  · have hne : hs ≠ [] := fun q => by subst q; simp at c7
    have hcat : hs = hs.dropLast ++ [hs.getLast hne] := (List.dropLast_concat_getLast hne).symm
    have hlen : hs.dropLast.length = hs.length - 1 := List.length_dropLast
    refine v_aload_n (pc := 13) cx rfl ga0 dX11_undo_13 ?_
    refine v_getfield (pc := 14) cx flX11_22 (by assumption) gf2 dX11_undo_14 ?_
    refine v_aload_n (pc := 17) cx rfl ga0 dX11_undo_17 ?_
    refine v_getfield (pc := 18) cx flX11_10 (by assumption) gf0 dX11_undo_18 ?_
    refine v_callVV (pc := 21) cx hR (c_Hi_restore _ _ _ _ (by rw [← hcat]; exact hH) hS (by omega)) mlX11_102 (by decide) (by assumption) rfl rfl rfl (Nat.le_of_ble_eq_true rfl) ⟨Nat.le_refl _, Nat.le_refl _⟩ dX11_undo_21 (fun E4 hP => ?_)
    obtain ⟨hH4, hS4, hF⟩ := hP
    obtain ⟨x0, ⟨τ, x1⟩, ⟨a1, a2, a3, x2⟩, x3, ⟨b1, b2, b3, b4, b5, b6, b7, x4⟩⟩ := hxr
    have y0 : E4 0 = _ := (hF 0 (by omega) (by omega)).trans x0
    have hH40 := hH4.obj
    refine v_aload_n (pc := 24) cx rfl ga0 dX11_undo_24 ?_
    refine v_getfield (pc := 25) cx flX11_22 (by assumption) gf2 dX11_undo_25 ?_
    refine v_getfield (pc := 28) cx flX11_101 (by assumption) gf1 dX11_undo_28 ?_
    refine v_ireturn (pc := 31) cx hI rfl ?_ dX11_undo_31
    have hO : Out E E4 1 34 := fun j hj => hF j (by omega) (by omega)
    have hO1 : isS (fG X) E4 17 τ := by
      obtain ⟨st, n, b, l, r, fc, fd, B, cr, cn, ng, gf, gs, nm, t, p, v, tk, fell, ⟨s0, s1, s2, s3, s4, s5, s6, s7⟩, hq⟩ := x1
      exact ⟨st, n, b, l, r, fc, fd, B, cr, cn, ng, gf, gs, nm, t, p, v, tk, fell, ⟨(hF _ (by omega) (by omega)).trans s0, (hF _ (by omega) (by omega)).trans s1, ⟨(hF _ (by omega) (by omega)).trans s2.1, (hF _ (by omega) (by omega)).trans s2.2.1, (hF _ (by omega) (by omega)).trans s2.2.2.1, (hF _ (by omega) (by omega)).trans s2.2.2.2⟩, (hF _ (by omega) (by omega)).trans s3, (hF _ (by omega) (by omega)).trans s4, (hF _ (by omega) (by omega)).trans s5, ⟨(hF _ (by omega) (by omega)).trans s6.1, (hF _ (by omega) (by omega)).trans s6.2.1, (hF _ (by omega) (by omega)).trans s6.2.2⟩, ⟨(hF _ (by omega) (by omega)).trans s7.1, (hF _ (by omega) (by omega)).trans s7.2.1, (hF _ (by omega) (by omega)).trans s7.2.2.1, (hF _ (by omega) (by omega)).trans s7.2.2.2⟩⟩, hq⟩
    refine ⟨?_, ?_, fun j hj => hO j (by omega)⟩
    · unfold vUnd
      simp only
      rw [if_neg (fun q => hne (List.length_eq_zero_iff.mp q)), hlen]
      have : 1 ≤ hs.length := by omega
      omega
    · unfold sUnd
      simp only
      rw [List.getLast?_eq_some_getLast hne]
      simp only
      exact ⟨y0, hS4, ⟨τ, hO1⟩, hH4, ⟨a1, a2, a3, x2.out hO (by omega)⟩, x3.out hO (by omega), ⟨b1, b2, b3, b4, b5, b6, b7, x4.out hO (by omega)⟩⟩
  · refine v_bipush (pc := 10) cx (by decide) dX11_undo_10 ?_
    refine v_ireturn (pc := 12) cx hI rfl ?_ dX11_undo_12
    have e : hs = [] := List.length_eq_zero_iff.mp (by omega)
    subst e
    exact ⟨rfl, hX, fun _ _ => rfl⟩
end
section
theorem tb_bd : ∀ j, j < 8 → (0 ≤ tbV 0 j ∧ tbV 0 j ≤ 1000) ∧ (0 ≤ tbV 1 j ∧ tbV 1 j ≤ 2000) := by decide
def vSet (Ψ : Fs) (w x : Int) : Int := if ¬ (0 ≤ w ∧ w ≤ 7) ∨ ¬ (tbV 0 w.toNat ≤ x ∧ x ≤ tbV 1 w.toNat) then -1 else Ψ.1.1 (11 + w.toNat)
def sSet (Ψ : Fs) (w x : Int) : Fs := if ¬ (0 ≤ w ∧ w ≤ 7) ∨ ¬ (tbV 0 w.toNat ≤ x ∧ x ≤ tbV 1 w.toNat) then Ψ else ((upI Ψ.1.1 (11 + w.toNat) x, Ψ.1.2), keepH Ψ.2.1 Ψ.1, Ψ.2.2)
theorem hSt_se {s s' : Nat → Int} {sh mk : List (Int × Int × Int)} {ge : List (Int × Int)} {st st' : Nat → Int} {n : Nat} {b l r : Nat → Int} {fc fd : Int} {B : BT} {cr cc : Int} {ng : Nat} {gf gs : Nat → Int} {nm : Nat} {t p v : Nat → Int} {tick fell : Int} (h : hSt (s, sh, ge, mk) st n b l r fc fd B cr cc ng gf gs nm t p v tick fell) (hst : ∀ j, j < 8 → st' j = s' (11 + j)) (hi : ∀ i, i < 11 → s' i = s i) : hSt (s', sh, ge, mk) st' n b l r fc fd B cr cc ng gf gs nm t p v tick fell := by
  obtain ⟨q1, q2, q3, q4, ⟨q51, q52, q53, q54, q55, q56⟩, q6, q7, q8, q9, q10, q11⟩ := h
  exact ⟨hst, q2, q3, q4.trans (hi 1 (by decide)).symm, ⟨q51.trans (hi 2 (by decide)).symm, q52.trans (hi 3 (by decide)).symm, q53.trans (hi 7 (by decide)).symm, q54.trans (hi 8 (by decide)).symm, q55.trans (hi 9 (by decide)).symm, q56.trans (hi 10 (by decide)).symm⟩, q6.trans (hi 4 (by decide)).symm, q7.trans (hi 5 (by decide)).symm, q8, q9, q10.trans (hi 0 (by decide)).symm, q11.trans (hi 6 (by decide)).symm⟩
set_option maxRecDepth 100000 in
set_option maxHeartbeats 4000000 in
theorem c_set (lc : Launch) (G : Gc) (E : Wd) (nh : Nat) {Ψ : Fs} {w x : Int} (h : isX G E Ψ) (hk : okX Ψ) (hw : -2147483648 ≤ w ∧ w < 2147483648) (hx : -2147483648 ≤ x ∧ x < 2147483648) : CI lc G 5 yX11_set cX11_set 4 .int [.ref (gb G + 0), .int (iI w), .int (iI x)] E nh 0 0 (fun r E' => r = vSet Ψ w x ∧ isX G E' (sSet Ψ w x) ∧ Out E E' 0 124) := by
  refine CI.mk (by decide +kernel) rfl (Nat.le_of_ble_eq_true rfl) ?_
  intro X hG hL cx hR hI
  subst hG; subst hL
  show V X E (nh, 0, 0) 0 [some (.ref (gb (fG X) + 0)), some (.int (iI w)), some (.int (iI x)), none] []
  obtain ⟨⟨s, sh, ge, mk⟩, hs, tx⟩ := Ψ
  have hX := h
  obtain ⟨hxr, hS, hH⟩ := h.split
  simp only at hS hH hxr
  have hx0 := hxr.1
  have hH0 := hH.obj
  have bad : (¬ (0 ≤ w ∧ w ≤ 7) ∨ ¬ (tbV 0 w.toNat ≤ x ∧ x ≤ tbV 1 w.toNat)) → V X E (nh, 0, 0) 27 [some (.ref (gb (fG X) + 0)), some (.int (iI w)), some (.int (iI x)), none] [] := by
    intro hb
    refine v_iconst (pc := 27) cx dX11_set_27 ?_
    refine v_ireturn (pc := 28) cx hI rfl ?_ dX11_set_28
    unfold vSet sSet
    rw [if_pos hb, if_pos hb]
    exact ⟨rfl, hX, fun _ _ => rfl⟩
  refine v_iload_n (pc := 0) cx rfl ga1 dX11_set_0 ?_
  refine v_iconst (pc := 1) cx dX11_set_1 ?_
  refine v_bipush (pc := 2) cx (by decide) dX11_set_2 ?_
  refine v_callSI (pc := 4) cx hR (c_isWithin _ _ _ _ (by omega)) mlX11_51 (by decide) rfl (Nat.le_of_ble_eq_true rfl) ⟨Nat.le_refl _, Nat.le_refl _⟩ dX11_set_4 (fun r1 E1 hP => ?_)
  obtain ⟨w1, rfl⟩ := hP
  refine v_if_eq (pc := 7) cx 27 dX11_set_7 rfl (by omega) (fun c7 => ?_) (fun c7 => ?_)
  · exact bad (Or.inl (by omega))
  · obtain ⟨wn, rfl⟩ := Int.eq_ofNat_of_zero_le (show 0 ≤ w by omega)
    have hbd := tb_bd wn (by omega)
    rw [Int.toNat_natCast] at bad
    refine v_iload_n (pc := 10) cx rfl ga2 dX11_set_10 ?_
    refine v_getstatic (pc := 11) cx 0 (by decide) gsX11_105 dX11_set_11 ?_
    refine v_iload_n (pc := 14) cx rfl ga1 dX11_set_14 ?_
    refine v_tload (pc := 15) cx (wn) (by decide) (by omega) dX11_set_15 ?_
    refine v_getstatic (pc := 16) cx 1 (by decide) gsX11_108 dX11_set_16 ?_
    refine v_iload_n (pc := 19) cx rfl ga1 dX11_set_19 ?_
    refine v_tload (pc := 20) cx (wn) (by decide) (by omega) dX11_set_20 ?_
    refine v_callSI (pc := 21) cx hR (c_isWithin _ _ _ _ (by omega)) mlX11_51 (by decide) rfl (Nat.le_of_ble_eq_true rfl) ⟨Nat.le_refl _, Nat.le_refl _⟩ dX11_set_21 (fun r2 E2 hP => ?_)
    obtain ⟨w2, rfl⟩ := hP
    refine v_if_ne (pc := 24) cx 29 dX11_set_24 rfl (by omega) (fun c24 => ?_) (fun c24 => ?_)
    · have hg : ¬ (¬ (0 ≤ (wn : Int) ∧ (wn : Int) ≤ 7) ∨ ¬ (tbV 0 wn ≤ x ∧ x ≤ tbV 1 wn)) := by omega
      refine v_aload_n (pc := 29) cx rfl ga0 dX11_set_29 ?_
      refine v_getfield (pc := 30) cx flX11_22 (by assumption) gf2 dX11_set_30 ?_
      refine v_aload_n (pc := 33) cx rfl ga0 dX11_set_33 ?_
      refine v_getfield (pc := 34) cx flX11_10 (by assumption) gf0 dX11_set_34 ?_
      refine v_callVV (pc := 37) cx hR (c_Hi_keep _ _ _ _ hH hS (by omega)) mlX11_64 (by decide) hH0 rfl rfl rfl (Nat.le_of_ble_eq_true rfl) ⟨Nat.le_refl _, Nat.le_refl _⟩ dX11_set_37 (fun E4 hP => ?_)
      obtain ⟨hH4, hF⟩ := hP
      have hxr4 := hxr.out hF (by omega)
      have hS4 := hS.out hF (by omega)
      have hx4 := hxr4.1
      obtain ⟨st, n, b, l, r, fc, fd, B, cr, cn, ng, gf, gs, nm, t, p, v, tk, fell, ⟨s0, s1, s2, s3, s4, s5, s6, s7⟩, hq⟩ := id hS4
      refine v_aload_n (pc := 40) cx rfl ga0 dX11_set_40 ?_
      refine v_getfield (pc := 41) cx flX11_10 (by assumption) gf0 dX11_set_41 ?_
      refine v_getfield (pc := 44) cx flX11_111 (by assumption) gf0 dX11_set_44 ?_
      refine v_iload_n (pc := 47) cx rfl ga1 dX11_set_47 ?_
      refine v_iaload (pc := 48) cx (wn) (by assumption) (by omega) dX11_set_48 ?_
      refine v_istore_n (pc := 49) cx rfl (sa3 rfl) dX11_set_49 ?_
      refine v_aload_n (pc := 50) cx rfl ga0 dX11_set_50 ?_
      refine v_getfield (pc := 51) cx flX11_10 (by assumption) gf0 dX11_set_51 ?_
      refine v_getfield (pc := 54) cx flX11_111 (by assumption) gf0 dX11_set_54 ?_
      refine v_iload_n (pc := 57) cx rfl ga1 dX11_set_57 ?_
      refine v_iload_n (pc := 58) cx rfl ga2 dX11_set_58 ?_
      refine v_iastore (pc := 59) cx (wn) s1 (by omega) dX11_set_59 (fun E59 hE59 hF59 => ?_)
      replace s0 := (hF59 _ (by omega)).trans s0
      replace s1 := hE59
      replace s3 := (hF59 _ (by omega)).trans s3
      replace s4 := (hF59 _ (by omega)).trans s4
      replace s5 := (hF59 _ (by omega)).trans s5
      refine v_iload_n (pc := 60) cx rfl ga3 dX11_set_60 ?_
      refine v_ireturn (pc := 61) cx hI rfl ?_ dX11_set_61
      have hF59' : Out E4 E59 (1 + 1) (1 + 2) := fun j hj => hF59 j (by omega)
      unfold vSet sSet
      simp only [Int.toNat_natCast]
      rw [if_neg hg, if_neg hg]
      refine ⟨hq.1 wn (by omega), isX.join (hxr4.out hF59' (by omega)) ⟨_, n, b, l, r, fc, fd, B, cr, cn, ng, gf, gs, nm, t, p, v, tk, fell, ⟨s0, s1, s2.out hF59' (by omega), s3, s4, s5, s6.out hF59' (by omega), s7.out hF59' (by omega)⟩, hSt_se hq (fun j hj => ?_) (fun i hi => upI_n (by omega))⟩ (hH4.out hF59' (by omega)), fun j hj => (hF59' j (by omega)).trans (hF j (by omega))⟩
      by_cases e : j = wn
      · rw [e, upI_s, upI_s]
      · rw [upI_n e, upI_n (by omega)]
        exact hq.1 j hj
    · exact bad (Or.inr (by omega))
def vWin (Ψ : Fs) : Int := Ψ.1.1 4
def sWin (Ψ : Fs) : Fs := ((upI Ψ.1.1 4 (Ψ.1.1 17), Ψ.1.2), keepH Ψ.2.1 Ψ.1, Ψ.2.2)
set_option maxRecDepth 100000 in
set_option maxHeartbeats 4000000 in
theorem c_wind (lc : Launch) (G : Gc) (E : Wd) (nh : Nat) {Ψ : Fs} (h : isX G E Ψ) (hk : okX Ψ) : CI lc G 5 yX11_wind cX11_wind 2 .int [.ref (gb G + 0)] E nh 0 0 (fun r E' => r = vWin Ψ ∧ isX G E' (sWin Ψ) ∧ Out E E' 0 124) := by
  refine CI.mk (by decide +kernel) rfl (Nat.le_of_ble_eq_true rfl) ?_
  intro X hG hL cx hR hI
  subst hG; subst hL
  show V X E (nh, 0, 0) 0 [some (.ref (gb (fG X) + 0)), none] []
  obtain ⟨⟨s, sh, ge, mk⟩, hs, tx⟩ := Ψ
  obtain ⟨hxr, hS, hH⟩ := h.split
  simp only at hS hH hxr
  have hx0 := hxr.1
  have hH0 := hH.obj
  refine v_aload_n (pc := 0) cx rfl ga0 dX11_wind_0 ?_
  refine v_getfield (pc := 1) cx flX11_22 (by assumption) gf2 dX11_wind_1 ?_
  refine v_aload_n (pc := 4) cx rfl ga0 dX11_wind_4 ?_
  refine v_getfield (pc := 5) cx flX11_10 (by assumption) gf0 dX11_wind_5 ?_
  refine v_callVV (pc := 8) cx hR (c_Hi_keep _ _ _ _ hH hS (by omega)) mlX11_64 (by decide) hH0 rfl rfl rfl (Nat.le_of_ble_eq_true rfl) ⟨Nat.le_refl _, Nat.le_refl _⟩ dX11_wind_8 (fun E4 hP => ?_)
  obtain ⟨hH4, hF⟩ := hP
  have hxr4 := hxr.out hF (by omega)
  have hS4 := hS.out hF (by omega)
  have hx4 := hxr4.1
  obtain ⟨st, n, b, l, r, fc, fd, B, cr, cn, ng, gf, gs, nm, t, p, v, tk, fell, ⟨s0, s1, s2, s3, s4, s5, s6, s7⟩, q1, q2, q3, q4, q5, q6, q7, ⟨q8, q8n⟩, ⟨q9, q9n⟩, q10, q11⟩ := id hS4
  simp only at q1 q2 q4 q5 q6 q7 q8 q9 q10 q11
  have e6 : st 6 = s 17 := q1 6 (by omega)
  refine v_aload_n (pc := 11) cx rfl ga0 dX11_wind_11 ?_
  refine v_getfield (pc := 12) cx flX11_10 (by assumption) gf0 dX11_wind_12 ?_
  refine v_getfield (pc := 15) cx flX11_114 (by assumption) gf4 dX11_wind_15 ?_
  refine v_getfield (pc := 18) cx flX11_118 (by assumption) gf0 dX11_wind_18 ?_
  refine v_istore_n (pc := 21) cx rfl (sa1 rfl) dX11_wind_21 ?_
  refine v_aload_n (pc := 22) cx rfl ga0 dX11_wind_22 ?_
  refine v_getfield (pc := 23) cx flX11_10 (by assumption) gf0 dX11_wind_23 ?_
  refine v_getfield (pc := 26) cx flX11_114 (by assumption) gf4 dX11_wind_26 ?_
  refine v_aload_n (pc := 29) cx rfl ga0 dX11_wind_29 ?_
  refine v_getfield (pc := 30) cx flX11_10 (by assumption) gf0 dX11_wind_30 ?_
  refine v_getfield (pc := 33) cx flX11_111 (by assumption) gf0 dX11_wind_33 ?_
  refine v_bipush (pc := 36) cx (by decide) dX11_wind_36 ?_
  refine v_iaload (pc := 38) cx (6) (by assumption) (by omega) dX11_wind_38 ?_
  refine v_putfield (pc := 39) cx fpX11_118 s5 ⟨rfl, rfl⟩ pf0 dX11_wind_39 (fun E39 hE39 hF39 => ?_)
  replace s0 := (hF39 _ (by omega)).trans s0
  replace s1 := (hF39 _ (by omega)).trans s1
  replace s3 := (hF39 _ (by omega)).trans s3
  replace s4 := (hF39 _ (by omega)).trans s4
  replace s5 := hE39
  refine v_iload_n (pc := 42) cx rfl ga1 dX11_wind_42 ?_
  refine v_ireturn (pc := 43) cx hI rfl ?_ dX11_wind_43
  have hF39' : Out E4 E39 (1 + 8) (1 + 9) := fun j hj => hF39 j (by omega)
  refine ⟨q6, isX.join (hxr4.out hF39' (by omega)) ⟨st, n, b, l, r, fc, fd, B, _, cn, ng, gf, gs, nm, t, p, v, tk, fell, ⟨s0, s1, s2.out hF39' (by omega), s3, s4, s5, s6.out hF39' (by omega), s7.out hF39' (by omega)⟩, fun j hj => ?_, q2, q3, q4, q5, e6, q7, ⟨q8, q8n⟩, ⟨q9, q9n⟩, q10, q11⟩ (hH4.out hF39' (by omega)), fun j hj => (hF39' j (by omega)).trans (hF j (by omega))⟩
  show st j = upI s 4 (s 17) (11 + j)
  rw [upI_n (by omega)]
  exact q1 j hj
def vGad (Ψ : Fs) (x y : Int) : Int := if ¬ (8 ≤ x ∧ x ≤ 120) ∨ ¬ (8 ≤ y ∧ y ≤ 120) then -1 else if 3 ≤ Ψ.1.2.2.1.length then -3 else (Ψ.1.2.2.1.length : Int) + 1
def sGad (Ψ : Fs) (x y : Int) : Fs := if ¬ (8 ≤ x ∧ x ≤ 120) ∨ ¬ (8 ≤ y ∧ y ≤ 120) then Ψ else if 3 ≤ Ψ.1.2.2.1.length then Ψ else ((Ψ.1.1, Ψ.1.2.1, Ψ.1.2.2.1 ++ [(x, y)], Ψ.1.2.2.2), keepH Ψ.2.1 Ψ.1, Ψ.2.2)
theorem lst2_push {f s : Nat → Int} {k : Nat} {x y : Int} : lst2 (upI f k x) (upI s k y) (k + 1) = lst2 f s k ++ [(x, y)] := by
  have e : lst2 (upI f k x) (upI s k y) (k + 1) = lst2 (upI f k x) (upI s k y) k ++ [(upI f k x k, upI s k y k)] := by simp [lst2, List.range_succ]
  rw [e, upI_s, upI_s]
  congr 1
  exact lst2_ext (fun j hj => ⟨upI_n (by omega), upI_n (by omega)⟩)
def vGre (Ψ : Fs) (k : Int) : Int := if ¬ (0 ≤ k ∧ k < Ψ.1.2.2.1.length) then -1 else (Ψ.1.2.2.1.length : Int) - 1
def sGre (Ψ : Fs) (k : Int) : Fs := if ¬ (0 ≤ k ∧ k < Ψ.1.2.2.1.length) then Ψ else ((Ψ.1.1, Ψ.1.2.1, delG Ψ.1.2.2.1 k.toNat, Ψ.1.2.2.2), keepH Ψ.2.1 Ψ.1, Ψ.2.2)
def vGea (Ψ : Fs) (k w : Int) : Int := if ¬ (0 ≤ k ∧ k < Ψ.1.2.2.1.length) ∨ ¬ (0 ≤ w ∧ w ≤ 1) then -1 else if w = 0 then g1 Ψ.1.2.2.1 k.toNat else g2 Ψ.1.2.2.1 k.toNat
theorem cnt_ext {t t' : Nat → Int} {gap : Int} : ∀ m, (∀ j, j < m → t j = t' j) → cnt t gap m = cnt t' gap m := by
  intro m
  induction m with
  | zero => intro _; rfl
  | succ m ih =>
    intro h
    simp only [cnt]
    rw [ih (fun j hj => h j (by omega)), h m (by omega)]
    by_cases e : m = 0
    · subst e; simp
    · rw [h (m - 1) (by omega)]
def vCnt (Ψ : Fs) (w : Int) : Int :=
  if 20 ≤ w ∧ w ≤ 27 then Ψ.1.1 (11 + (w - 20).toNat) else if w = 0 then Ψ.1.1 0 else if w = 1 then (Ψ.1.2.1.length : Int) else if w = 2 then (Ψ.1.2.2.2.length : Int) else if w = 3 then (cnt (k1 Ψ.1.2.2.2) (Ψ.1.1 18) Ψ.1.2.2.2.length : Int)
  else if w = 4 then Ψ.1.1 1 else if w = 5 then Ψ.1.1 2 else if w = 6 then Ψ.1.1 3 else if w = 7 then Ψ.1.1 4 else if w = 8 then Ψ.1.1 5 else if w = 9 then plG Ψ.1.2.2.1 (Ψ.1.1 5) (Ψ.1.1 16) else if w = 10 then (Ψ.1.2.2.1.length : Int) else if w = 11 then (Ψ.2.1.length : Int) else if w = 12 then (Ψ.2.2.length : Int) else if w = 13 then tkRain Ψ.1 else -1
set_option maxRecDepth 100000 in
set_option maxHeartbeats 4000000 in
theorem c_count (lc : Launch) (G : Gc) (E : Wd) (nh : Nat) {Ψ : Fs} {w : Int} (h : isX G E Ψ) (hk : okX Ψ) (hw : -2147483648 ≤ w ∧ w < 2147483648) : CI lc G 5 yX11_count cX11_count 2 .int [.ref (gb G + 0), .int (iI w)] E nh 0 0 (fun r E' => r = vCnt Ψ w ∧ E' = E) := by
  refine CI.mk (by decide +kernel) rfl (Nat.le_of_ble_eq_true rfl) ?_
  intro X hG hL cx hR hI
  subst hG; subst hL
  show V X E (nh, 0, 0) 0 [some (.ref (gb (fG X) + 0)), some (.int (iI w))] []
  obtain ⟨⟨s, sh, ge, mk⟩, hs, tx⟩ := Ψ
  obtain ⟨hxr, hS, hH⟩ := h.split
  obtain ⟨⟨hsc, hse, hsh, hge, hmk⟩, -, -⟩ := hk
  simp only at hsc hse hsh hge hmk hS hH hxr
  obtain ⟨hx0, -, -, ⟨ch, ⟨ht0, -⟩, -⟩, -⟩ := id hxr
  have hH0 := hH.obj
  obtain ⟨st, n, b, l, r, fc, fd, B, cr, cn, ng, gf, gs, nm, t, p, v, tk, fell, ⟨s0, s1, s2, s3, s4, s5, s6, s7⟩, q1, q2, q3, q4, q5, q6, q7, ⟨q8, q8n⟩, ⟨q9, q9n⟩, q10, q11⟩ := id hS
  simp only at q1 q2 q4 q5 q6 q7 q8 q9 q10 q11
  subst q2; subst q8; subst q9; subst q10
  obtain ⟨q51, q52, q53, q54, q55, q56⟩ := q5
  obtain ⟨s20, s21, s22, s23⟩ := id s2
  obtain ⟨s60, s61, s62⟩ := id s6
  obtain ⟨s70, s71, s72, s73⟩ := id s7
  have a5 : st 5 = s 16 := q1 5 (by omega)
  have a7 : st 7 = s 18 := q1 7 (by omega)
  obtain ⟨z1, z2, z3, z4, z5, z6, z7, z8⟩ := hse
  have hse0 := hsc.1
  refine v_iload_n (pc := 0) cx rfl ga1 dX11_count_0 ?_
  refine v_bipush (pc := 1) cx (by decide) dX11_count_1 ?_
  refine v_bipush (pc := 3) cx (by decide) dX11_count_3 ?_
  refine v_callSI (pc := 5) cx hR (c_isWithin _ _ _ _ (by omega)) mlX11_51 (by decide) rfl (Nat.le_of_ble_eq_true rfl) ⟨Nat.le_refl _, Nat.le_refl _⟩ dX11_count_5 (fun r1 E1 hP => ?_)
  obtain ⟨w1, rfl⟩ := hP
  refine v_if_eq (pc := 8) cx 24 dX11_count_8 rfl (by omega) (fun c8 => ?_) (fun c8 => ?_)
  · rcases (show w = 0 ∨ w = 1 ∨ w = 2 ∨ w = 3 ∨ w = 4 ∨ w = 5 ∨ w = 6 ∨ w = 7 ∨ w = 8 ∨ w = 9 ∨ w = 10 ∨ w = 11 ∨ w = 12 ∨ w = 13 ∨ ((w < 0 ∨ 13 < w) ∧ (w < 20 ∨ 27 < w)) by omega) with rfl | rfl | rfl | rfl | rfl | rfl | rfl | rfl | rfl | rfl | rfl | rfl | rfl | rfl | hw2
    · refine v_iload_n (pc := 24) cx rfl ga1 dX11_count_24 ?_
      refine v_tableIn (pc := 25) cx 96 dX11_count_25 (by omega) rfl rfl ?_
      refine v_aload_n (pc := 96) cx rfl ga0 dX11_count_96 ?_
      refine v_getfield (pc := 97) cx flX11_10 (by assumption) gf0 dX11_count_97 ?_
      refine v_getfield (pc := 100) cx flX11_47 (by assumption) gf7 dX11_count_100 ?_
      refine v_ireturn (pc := 103) cx hI rfl ?_ dX11_count_103
      exact ⟨rfl, rfl⟩
    · refine v_iload_n (pc := 24) cx rfl ga1 dX11_count_24 ?_
      refine v_tableIn (pc := 25) cx 104 dX11_count_25 (by omega) rfl rfl ?_
      refine v_aload_n (pc := 104) cx rfl ga0 dX11_count_104 ?_
      refine v_getfield (pc := 105) cx flX11_10 (by assumption) gf0 dX11_count_105 ?_
      refine v_getfield (pc := 108) cx flX11_55 (by assumption) gf1 dX11_count_108 ?_
      refine v_getfield (pc := 111) cx flX11_59 (by assumption) gf3 dX11_count_111 ?_
      refine v_ireturn (pc := 114) cx hI rfl ?_ dX11_count_114
      refine ⟨?_, rfl⟩
      show _ = ((lst b l r n).length : Int)
      rw [lst_len]
    · refine v_iload_n (pc := 24) cx rfl ga1 dX11_count_24 ?_
      refine v_tableIn (pc := 25) cx 115 dX11_count_25 (by omega) rfl rfl ?_
      refine v_aload_n (pc := 115) cx rfl ga0 dX11_count_115 ?_
      refine v_getfield (pc := 116) cx flX11_10 (by assumption) gf0 dX11_count_116 ?_
      refine v_getfield (pc := 119) cx flX11_142 (by assumption) gf6 dX11_count_119 ?_
      refine v_getfield (pc := 122) cx flX11_146 (by assumption) gf3 dX11_count_122 ?_
      refine v_ireturn (pc := 125) cx hI rfl ?_ dX11_count_125
      refine ⟨?_, rfl⟩
      show _ = ((lst t p v nm).length : Int)
      rw [lst_len]
    · refine v_iload_n (pc := 24) cx rfl ga1 dX11_count_24 ?_
      refine v_tableIn (pc := 25) cx 126 dX11_count_25 (by omega) rfl rfl ?_
      refine v_aload_n (pc := 126) cx rfl ga0 dX11_count_126 ?_
      refine v_getfield (pc := 127) cx flX11_10 (by assumption) gf0 dX11_count_127 ?_
      refine v_getfield (pc := 130) cx flX11_142 (by assumption) gf6 dX11_count_130 ?_
      refine v_aload_n (pc := 133) cx rfl ga0 dX11_count_133 ?_
      refine v_getfield (pc := 134) cx flX11_10 (by assumption) gf0 dX11_count_134 ?_
      refine v_getfield (pc := 137) cx flX11_111 (by assumption) gf0 dX11_count_137 ?_
      refine v_bipush (pc := 140) cx (by decide) dX11_count_140 ?_
      refine v_iaload (pc := 142) cx (7) (by assumption) (by omega) dX11_count_142 ?_
      rw [a7]
      refine v_callVI (pc := 143) cx hR (c_Mk_countStorms _ _ _ _ s7 (by omega) (okT_of hmk (by omega)) (by omega)) mlX11_149 (by decide) (by assumption) rfl rfl rfl (Nat.le_of_ble_eq_true rfl) ⟨Nat.le_refl _, Nat.le_refl _⟩ dX11_count_143 (fun v5 E5 hP => ?_)
      obtain ⟨rfl, rfl⟩ := hP
      refine v_ireturn (pc := 146) cx hI rfl ?_ dX11_count_146
      refine ⟨?_, rfl⟩
      show _ = (cnt (k1 (lst t p v nm)) (s 18) (lst t p v nm).length : Int)
      rw [lst_len, cnt_ext nm (fun j hj => (k_lst hj).1)]
    · refine v_iload_n (pc := 24) cx rfl ga1 dX11_count_24 ?_
      refine v_tableIn (pc := 25) cx 147 dX11_count_25 (by omega) rfl rfl ?_
      refine v_aload_n (pc := 147) cx rfl ga0 dX11_count_147 ?_
      refine v_getfield (pc := 148) cx flX11_10 (by assumption) gf0 dX11_count_148 ?_
      refine v_getfield (pc := 151) cx flX11_152 (by assumption) gf2 dX11_count_151 ?_
      refine v_getfield (pc := 154) cx flX11_156 (by assumption) gf0 dX11_count_154 ?_
      refine v_ireturn (pc := 157) cx hI rfl ?_ dX11_count_157
      exact ⟨q4, rfl⟩
    · refine v_iload_n (pc := 24) cx rfl ga1 dX11_count_24 ?_
      refine v_tableIn (pc := 25) cx 158 dX11_count_25 (by omega) rfl rfl ?_
      refine v_aload_n (pc := 158) cx rfl ga0 dX11_count_158 ?_
      refine v_getfield (pc := 159) cx flX11_10 (by assumption) gf0 dX11_count_159 ?_
      refine v_getfield (pc := 162) cx flX11_161 (by assumption) gf3 dX11_count_162 ?_
      refine v_getfield (pc := 165) cx flX11_165 (by assumption) gf0 dX11_count_165 ?_
      refine v_ireturn (pc := 168) cx hI rfl ?_ dX11_count_168
      exact ⟨q51, rfl⟩
    · refine v_iload_n (pc := 24) cx rfl ga1 dX11_count_24 ?_
      refine v_tableIn (pc := 25) cx 169 dX11_count_25 (by omega) rfl rfl ?_
      refine v_aload_n (pc := 169) cx rfl ga0 dX11_count_169 ?_
      refine v_getfield (pc := 170) cx flX11_10 (by assumption) gf0 dX11_count_170 ?_
      refine v_getfield (pc := 173) cx flX11_161 (by assumption) gf3 dX11_count_173 ?_
      refine v_getfield (pc := 176) cx flX11_168 (by assumption) gf1 dX11_count_176 ?_
      refine v_ireturn (pc := 179) cx hI rfl ?_ dX11_count_179
      exact ⟨q52, rfl⟩
    · refine v_iload_n (pc := 24) cx rfl ga1 dX11_count_24 ?_
      refine v_tableIn (pc := 25) cx 180 dX11_count_25 (by omega) rfl rfl ?_
      refine v_aload_n (pc := 180) cx rfl ga0 dX11_count_180 ?_
      refine v_getfield (pc := 181) cx flX11_10 (by assumption) gf0 dX11_count_181 ?_
      refine v_getfield (pc := 184) cx flX11_114 (by assumption) gf4 dX11_count_184 ?_
      refine v_getfield (pc := 187) cx flX11_118 (by assumption) gf0 dX11_count_187 ?_
      refine v_ireturn (pc := 190) cx hI rfl ?_ dX11_count_190
      exact ⟨q6, rfl⟩
    · refine v_iload_n (pc := 24) cx rfl ga1 dX11_count_24 ?_
      refine v_tableIn (pc := 25) cx 191 dX11_count_25 (by omega) rfl rfl ?_
      refine v_aload_n (pc := 191) cx rfl ga0 dX11_count_191 ?_
      refine v_getfield (pc := 192) cx flX11_10 (by assumption) gf0 dX11_count_192 ?_
      refine v_getfield (pc := 195) cx flX11_114 (by assumption) gf4 dX11_count_195 ?_
      refine v_getfield (pc := 198) cx flX11_171 (by assumption) gf1 dX11_count_198 ?_
      refine v_ireturn (pc := 201) cx hI rfl ?_ dX11_count_201
      exact ⟨q7, rfl⟩
    · refine v_iload_n (pc := 24) cx rfl ga1 dX11_count_24 ?_
      refine v_tableIn (pc := 25) cx 202 dX11_count_25 (by omega) rfl rfl ?_
      refine v_aload_n (pc := 202) cx rfl ga0 dX11_count_202 ?_
      refine v_getfield (pc := 203) cx flX11_10 (by assumption) gf0 dX11_count_203 ?_
      refine v_callVI (pc := 206) cx hR (c_St_drumPlace _ _ _ _ ⟨s0, s1, s2, s3, s4, s5, s6, s7⟩ q8n (fun j hj => (okGe_at hge j hj).2) (by omega)) mlX11_174 (by decide) (by assumption) rfl rfl rfl (Nat.le_of_ble_eq_true rfl) ⟨Nat.le_refl _, Nat.le_refl _⟩ dX11_count_206 (fun v5 E5 hP => ?_)
      obtain ⟨rfl, rfl⟩ := hP
      refine v_ireturn (pc := 209) cx hI rfl ?_ dX11_count_209
      refine ⟨?_, rfl⟩
      show _ = plG (lst2 gf gs ng) (s 5) (s 16)
      rw [plG_lst, a5, q7]
    · refine v_iload_n (pc := 24) cx rfl ga1 dX11_count_24 ?_
      refine v_tableIn (pc := 25) cx 210 dX11_count_25 (by omega) rfl rfl ?_
      refine v_aload_n (pc := 210) cx rfl ga0 dX11_count_210 ?_
      refine v_getfield (pc := 211) cx flX11_10 (by assumption) gf0 dX11_count_211 ?_
      refine v_getfield (pc := 214) cx flX11_123 (by assumption) gf5 dX11_count_214 ?_
      refine v_getfield (pc := 217) cx flX11_127 (by assumption) gf2 dX11_count_217 ?_
      refine v_ireturn (pc := 220) cx hI rfl ?_ dX11_count_220
      refine ⟨?_, rfl⟩
      show _ = ((lst2 gf gs ng).length : Int)
      rw [lst2_len]
    · refine v_iload_n (pc := 24) cx rfl ga1 dX11_count_24 ?_
      refine v_tableIn (pc := 25) cx 221 dX11_count_25 (by omega) rfl rfl ?_
      refine v_aload_n (pc := 221) cx rfl ga0 dX11_count_221 ?_
      refine v_getfield (pc := 222) cx flX11_22 (by assumption) gf2 dX11_count_222 ?_
      refine v_getfield (pc := 225) cx flX11_101 (by assumption) gf1 dX11_count_225 ?_
      refine v_ireturn (pc := 228) cx hI rfl ?_ dX11_count_228
      exact ⟨rfl, rfl⟩
    · refine v_iload_n (pc := 24) cx rfl ga1 dX11_count_24 ?_
      refine v_tableIn (pc := 25) cx 229 dX11_count_25 (by omega) rfl rfl ?_
      refine v_aload_n (pc := 229) cx rfl ga0 dX11_count_229 ?_
      refine v_getfield (pc := 230) cx flX11_36 (by assumption) gf4 dX11_count_230 ?_
      refine v_getfield (pc := 233) cx flX11_178 (by assumption) gf1 dX11_count_233 ?_
      refine v_ireturn (pc := 236) cx hI rfl ?_ dX11_count_236
      exact ⟨rfl, rfl⟩
    · refine v_iload_n (pc := 24) cx rfl ga1 dX11_count_24 ?_
      refine v_tableIn (pc := 25) cx 237 dX11_count_25 (by omega) rfl rfl ?_
      refine v_aload_n (pc := 237) cx rfl ga0 dX11_count_237 ?_
      refine v_getfield (pc := 238) cx flX11_10 (by assumption) gf0 dX11_count_238 ?_
      refine v_getfield (pc := 241) cx flX11_55 (by assumption) gf1 dX11_count_241 ?_
      refine v_aload_n (pc := 244) cx rfl ga0 dX11_count_244 ?_
      refine v_getfield (pc := 245) cx flX11_10 (by assumption) gf0 dX11_count_245 ?_
      refine v_getfield (pc := 248) cx flX11_47 (by assumption) gf7 dX11_count_248 ?_
      refine v_callVI (pc := 251) cx hR (c_Sh_rainIn _ _ _ _ s2 q3 (by omega) (okSh_at hsh)) mlX11_181 (by decide) (by assumption) rfl rfl rfl (Nat.le_of_ble_eq_true rfl) ⟨Nat.le_refl _, Nat.le_refl _⟩ dX11_count_251 (fun v5 E5 hP => ?_)
      obtain ⟨rfl, rfl⟩ := hP
      refine v_ireturn (pc := 254) cx hI rfl ?_ dX11_count_254
      refine ⟨?_, rfl⟩
      show _ = rainL (lst b l r n) (s 0)
      rw [rainTo_L]
    · refine v_iload_n (pc := 24) cx rfl ga1 dX11_count_24 ?_
      refine v_tableOut (pc := 25) cx 255 dX11_count_25 (by omega) rfl ?_
      refine v_iconst (pc := 255) cx dX11_count_255 ?_
      refine v_ireturn (pc := 256) cx hI rfl ?_ dX11_count_256
      refine ⟨?_, rfl⟩
      unfold vCnt
      rw [if_neg (by omega), if_neg (by omega), if_neg (by omega), if_neg (by omega), if_neg (by omega), if_neg (by omega), if_neg (by omega), if_neg (by omega), if_neg (by omega), if_neg (by omega), if_neg (by omega), if_neg (by omega), if_neg (by omega), if_neg (by omega), if_neg (by omega)]
  · obtain ⟨kn, hkn⟩ := Int.eq_ofNat_of_zero_le (show 0 ≤ w - 20 by omega)
    refine v_aload_n (pc := 11) cx rfl ga0 dX11_count_11 ?_
    refine v_getfield (pc := 12) cx flX11_10 (by assumption) gf0 dX11_count_12 ?_
    refine v_getfield (pc := 15) cx flX11_111 (by assumption) gf0 dX11_count_15 ?_
    refine v_iload_n (pc := 18) cx rfl ga1 dX11_count_18 ?_
    refine v_bipush (pc := 19) cx (by decide) dX11_count_19 ?_
    refine v_isub (pc := 21) cx dX11_count_21 ?_
    refine v_iaload (pc := 22) cx (kn) (by assumption) (by omega) dX11_count_22 ?_
    refine v_ireturn (pc := 23) cx hI rfl ?_ dX11_count_23
    refine ⟨?_, rfl⟩
    unfold vCnt
    rw [if_pos (by omega), hkn, Int.toNat_natCast]
    exact q1 kn (by omega)
def vAcc (Ψ : Fs) (w : Int) : Int := if 0 ≤ w ∧ w ≤ 4 then Ψ.1.1 (6 + w.toNat) else -1
set_option maxRecDepth 100000 in
set_option maxHeartbeats 4000000 in
theorem c_account (lc : Launch) (G : Gc) (E : Wd) (nh : Nat) {Ψ : Fs} {w : Int} (h : isX G E Ψ) (hk : okX Ψ) (hw : -2147483648 ≤ w ∧ w < 2147483648) : CI lc G 5 yX11_account cX11_account 2 .int [.ref (gb G + 0), .int (iI w)] E nh 0 0 (fun r E' => r = vAcc Ψ w ∧ E' = E) := by
  refine CI.mk (by decide +kernel) rfl (Nat.le_of_ble_eq_true rfl) ?_
  intro X hG hL cx hR hI
  subst hG; subst hL
  show V X E (nh, 0, 0) 0 [some (.ref (gb (fG X) + 0)), some (.int (iI w))] []
  obtain ⟨hxr, hS, hH⟩ := h.split
  have hx0 := hxr.1
  obtain ⟨fs, hfs⟩ := hS.obj
  refine v_iload_n (pc := 0) cx rfl ga1 dX11_account_0 ?_
  refine v_iconst (pc := 1) cx dX11_account_1 ?_
  refine v_iconst (pc := 2) cx dX11_account_2 ?_
  refine v_callSI (pc := 3) cx hR (c_isWithin _ _ _ _ (by omega)) mlX11_51 (by decide) rfl (Nat.le_of_ble_eq_true rfl) ⟨Nat.le_refl _, Nat.le_refl _⟩ dX11_account_3 (fun r1 E1 hP => ?_)
  obtain ⟨w1, rfl⟩ := hP
  refine v_if_eq (pc := 6) cx 20 dX11_account_6 rfl (by omega) (fun c6 => ?_) (fun c6 => ?_)
  · refine v_iconst (pc := 20) cx dX11_account_20 ?_
    refine v_ireturn (pc := 21) cx hI rfl ?_ dX11_account_21
    refine ⟨?_, rfl⟩
    unfold vAcc
    rw [if_neg (by omega)]
  · refine v_aload_n (pc := 9) cx rfl ga0 dX11_account_9 ?_
    refine v_getfield (pc := 10) cx flX11_10 (by assumption) gf0 dX11_account_10 ?_
    refine v_iload_n (pc := 13) cx rfl ga1 dX11_account_13 ?_
    refine v_callVI (pc := 14) cx hR (c_St_accountOf _ _ _ _ hS (by omega)) mlX11_184 (by decide) (by assumption) rfl rfl rfl (Nat.le_of_ble_eq_true rfl) ⟨Nat.le_refl _, Nat.le_refl _⟩ dX11_account_14 (fun r2 E2 hP => ?_)
    obtain ⟨rfl, rfl⟩ := hP
    refine v_goto (pc := 17) cx 21 dX11_account_17 rfl ?_
    refine v_ireturn (pc := 21) cx hI rfl ?_ dX11_account_21
    refine ⟨?_, rfl⟩
    unfold vAcc
    rw [if_pos (by omega)]
def vMar (Ψ : Fs) (k w : Int) : Int := if ¬ (0 ≤ k ∧ k < Ψ.1.2.2.2.length) ∨ ¬ (0 ≤ w ∧ w ≤ 2) then -1 else if w = 0 then k1 Ψ.1.2.2.2 k.toNat else if w = 1 then k2 Ψ.1.2.2.2 k.toNat else k3 Ψ.1.2.2.2 k.toNat
set_option maxRecDepth 100000 in
set_option maxHeartbeats 4000000 in
theorem c_mark (lc : Launch) (G : Gc) (E : Wd) (nh : Nat) {Ψ : Fs} {k w : Int} (h : isX G E Ψ) (hk : okX Ψ) (hb0 : -2147483648 ≤ k ∧ k < 2147483648) (hw : -2147483648 ≤ w ∧ w < 2147483648) : CI lc G 5 yX11_mark cX11_mark 3 .int [.ref (gb G + 0), .int (iI k), .int (iI w)] E nh 0 0 (fun r E' => r = vMar Ψ k w ∧ E' = E) := by
  refine CI.mk (by decide +kernel) rfl (Nat.le_of_ble_eq_true rfl) ?_
  intro X hG hL cx hR hI
  subst hG; subst hL
  show V X E (nh, 0, 0) 0 [some (.ref (gb (fG X) + 0)), some (.int (iI k)), some (.int (iI w))] []
  obtain ⟨⟨s, sh, ge, mk⟩, hs, tx⟩ := Ψ
  obtain ⟨hxr, hS, hH⟩ := h.split
  simp only at hS hH hxr
  obtain ⟨st, n, b, l, r, fc, fd, B, cr, cn, ng, gf, gs, nm, t, p, v, tk, fell, ⟨s0, s1, s2, s3, s4, s5, s6, s7⟩, q1, q2, q3, q4, q5, q6, q7, ⟨q8, q8n⟩, ⟨q9, q9n⟩, q10, q11⟩ := id hS
  simp only at q9
  subst q9
  have hx0 := hxr.1
  obtain ⟨s70, s71, s72, s73⟩ := id s7
  refine v_aload_n (pc := 0) cx rfl ga0 dX11_mark_0 ?_
  refine v_getfield (pc := 1) cx flX11_10 (by assumption) gf0 dX11_mark_1 ?_
  refine v_getfield (pc := 4) cx flX11_142 (by assumption) gf6 dX11_mark_4 ?_
  refine v_iload_n (pc := 7) cx rfl ga1 dX11_mark_7 ?_
  refine v_callVI (pc := 8) cx hR (c_Mk_has _ _ _ _ s7 (by omega) hb0) mlX11_187 (by decide) (by assumption) rfl rfl rfl (Nat.le_of_ble_eq_true rfl) ⟨Nat.le_refl _, Nat.le_refl _⟩ dX11_mark_8 (fun r1 E1 hP => ?_)
  obtain ⟨w1, rfl⟩ := hP
  refine v_if_ne (pc := 11) cx 16 dX11_mark_11 rfl (by omega) (fun c11 => ?_) (fun c11 => ?_)
  · obtain ⟨kn, rfl⟩ := Int.eq_ofNat_of_zero_le (show 0 ≤ k by omega)
    have e := k_lst (b := t) (l := p) (r := v) (show kn < nm by omega)
    refine v_iload_n (pc := 16) cx rfl ga2 dX11_mark_16 ?_
    rcases (show w = 0 ∨ w = 1 ∨ w = 2 ∨ (w < 0 ∨ 2 < w) by omega) with rfl | rfl | rfl | hw2
    · refine v_tableIn (pc := 17) cx 44 dX11_mark_17 (by omega) rfl rfl ?_
      refine v_aload_n (pc := 44) cx rfl ga0 dX11_mark_44 ?_
      refine v_getfield (pc := 45) cx flX11_10 (by assumption) gf0 dX11_mark_45 ?_
      refine v_getfield (pc := 48) cx flX11_142 (by assumption) gf6 dX11_mark_48 ?_
      refine v_getfield (pc := 51) cx flX11_188 (by assumption) gf0 dX11_mark_51 ?_
      refine v_iload_n (pc := 54) cx rfl ga1 dX11_mark_54 ?_
      refine v_iaload (pc := 55) cx (kn) (by assumption) (by omega) dX11_mark_55 ?_
      refine v_ireturn (pc := 56) cx hI rfl ?_ dX11_mark_56
      refine ⟨?_, rfl⟩
      unfold vMar
      simp only [lst_len, Int.toNat_natCast, e.1, e.2.1, e.2.2]
      rw [if_neg (by omega)]
      rfl
    · refine v_tableIn (pc := 17) cx 57 dX11_mark_17 (by omega) rfl rfl ?_
      refine v_aload_n (pc := 57) cx rfl ga0 dX11_mark_57 ?_
      refine v_getfield (pc := 58) cx flX11_10 (by assumption) gf0 dX11_mark_58 ?_
      refine v_getfield (pc := 61) cx flX11_142 (by assumption) gf6 dX11_mark_61 ?_
      refine v_getfield (pc := 64) cx flX11_191 (by assumption) gf1 dX11_mark_64 ?_
      refine v_iload_n (pc := 67) cx rfl ga1 dX11_mark_67 ?_
      refine v_iaload (pc := 68) cx (kn) (by assumption) (by omega) dX11_mark_68 ?_
      refine v_ireturn (pc := 69) cx hI rfl ?_ dX11_mark_69
      refine ⟨?_, rfl⟩
      unfold vMar
      simp only [lst_len, Int.toNat_natCast, e.1, e.2.1, e.2.2]
      rw [if_neg (by omega)]
      rfl
    · refine v_tableIn (pc := 17) cx 70 dX11_mark_17 (by omega) rfl rfl ?_
      refine v_aload_n (pc := 70) cx rfl ga0 dX11_mark_70 ?_
      refine v_getfield (pc := 71) cx flX11_10 (by assumption) gf0 dX11_mark_71 ?_
      refine v_getfield (pc := 74) cx flX11_142 (by assumption) gf6 dX11_mark_74 ?_
      refine v_getfield (pc := 77) cx flX11_194 (by assumption) gf2 dX11_mark_77 ?_
      refine v_iload_n (pc := 80) cx rfl ga1 dX11_mark_80 ?_
      refine v_iaload (pc := 81) cx (kn) (by assumption) (by omega) dX11_mark_81 ?_
      refine v_ireturn (pc := 82) cx hI rfl ?_ dX11_mark_82
      refine ⟨?_, rfl⟩
      unfold vMar
      simp only [lst_len, Int.toNat_natCast, e.1, e.2.1, e.2.2]
      rw [if_neg (by omega)]
      rfl
    · refine v_tableOut (pc := 17) cx 83 dX11_mark_17 (by omega) rfl ?_
      refine v_iconst (pc := 83) cx dX11_mark_83 ?_
      refine v_ireturn (pc := 84) cx hI rfl ?_ dX11_mark_84
      refine ⟨?_, rfl⟩
      unfold vMar
      simp only [lst_len]
      rw [if_pos (by omega)]
  · refine v_iconst (pc := 14) cx dX11_mark_14 ?_
    refine v_ireturn (pc := 15) cx hI rfl ?_ dX11_mark_15
    refine ⟨?_, rfl⟩
    unfold vMar
    simp only [lst_len]
    rw [if_pos (by omega)]
end
section
/-! storms -/
/-- how many marks stand ahead of the k-th storm -/
def sxN (t : Nat → Int) (gap : Int) (k : Nat) : Nat → Nat
  | 0 => 0
  | n + 1 => sxN t gap k n + if cnt t gap (n + 1) ≤ k then 1 else 0
theorem sxN_of {t : Nat → Int} {gap : Int} {k f : Nat} : ∀ n, (∀ i, i < f → i < n → cnt t gap (i + 1) ≤ k) → (∀ i, f ≤ i → i < n → k < cnt t gap (i + 1)) → sxN t gap k n = min f n := by
  intro n
  induction n with
  | zero => intro _ _; simp [sxN]
  | succ n ih =>
    intro h1 h2
    simp only [sxN]
    rw [ih (fun i hi hn => h1 i hi (by omega)) (fun i hi hn => h2 i hi (by omega))]
    by_cases e : n < f
    · rw [if_pos (h1 n e (by omega))]
      omega
    · rw [if_neg (by have := h2 n (by omega) (by omega); omega)]
      omega
theorem cnt_mono {t : Nat → Int} {gap : Int} (i : Nat) : ∀ d, cnt t gap i ≤ cnt t gap (i + d) := by
  intro d
  induction d with
  | zero => exact Nat.le_refl _
  | succ d ih =>
    rw [show i + (d + 1) = (i + d) + 1 by omega]
    simp only [cnt]
    omega
theorem cnt_le_of {t : Nat → Int} {gap : Int} {i j : Nat} (h : i ≤ j) : cnt t gap i ≤ cnt t gap j := by
  have := cnt_mono (t := t) (gap := gap) i (j - i)
  rwa [show i + (j - i) = j by omega] at this
def sF (t : Nat → Int) (gap : Int) (n k : Nat) : Nat := sxN t gap k n
theorem sF_first {t : Nat → Int} {gap : Int} {n f : Nat} (hf : f < n) (hb : beg t gap f) : sF t gap n (cnt t gap f) = f := by
  unfold sF
  rw [sxN_of (f := f) n (fun i hi _ => cnt_le_of (by omega)) (fun i hi _ => by have := cnt_le_of (t := t) (gap := gap) (show f + 1 ≤ i + 1 by omega); rw [cnt_b hb] at this; omega)]
  omega
theorem cnt_flat {t : Nat → Int} {gap : Int} {f e : Nat} (hno : ∀ j, f < j → j < e → ¬ beg t gap j) : ∀ d, f + 1 + d ≤ e → cnt t gap (f + 1 + d) = cnt t gap (f + 1) := by
  intro d
  induction d with
  | zero => intro _; rfl
  | succ d ih =>
    intro hd
    rw [show f + 1 + (d + 1) = (f + 1 + d) + 1 by omega, cnt_n (hno (f + 1 + d) (by omega) (by omega))]
    exact ih (by omega)
theorem sF_end {t : Nat → Int} {gap : Int} {n f e : Nat} (hb : beg t gap f) (hfe : f < e) (hen : e ≤ n) (hno : ∀ j, f < j → j < e → ¬ beg t gap j) (he : e = n ∨ beg t gap e) : sF t gap n (cnt t gap f + 1) = e := by
  unfold sF
  have hce : cnt t gap e = cnt t gap f + 1 := by
    have := cnt_flat hno (e - (f + 1)) (by omega)
    rw [show f + 1 + (e - (f + 1)) = e by omega, cnt_b hb] at this
    exact this
  rw [sxN_of (f := e) n (fun i hi _ => by have := cnt_le_of (t := t) (gap := gap) (show i + 1 ≤ e by omega); omega) (fun i hi hin => ?_)]
  · omega
  · rcases he with he | he
    · omega
    · have := cnt_le_of (t := t) (gap := gap) (show e + 1 ≤ i + 1 by omega)
      rw [cnt_b he] at this
      omega
/-- the k-th storm is there -/
theorem cnt_find {t : Nat → Int} {gap : Int} {k : Nat} : ∀ n, k < cnt t gap n → ∃ f, f < n ∧ beg t gap f ∧ cnt t gap f = k := by
  intro n
  induction n with
  | zero => intro h; simp [cnt] at h
  | succ n ih =>
    intro h
    by_cases hb : beg t gap n
    · rw [cnt_b hb] at h
      by_cases e : k < cnt t gap n
      · obtain ⟨f, h1, h2, h3⟩ := ih e
        exact ⟨f, by omega, h2, h3⟩
      · exact ⟨n, by omega, hb, by omega⟩
    · rw [cnt_n hb] at h
      obtain ⟨f, h1, h2, h3⟩ := ih h
      exact ⟨f, by omega, h2, h3⟩
theorem cnt_lt {t : Nat → Int} {gap : Int} {f n : Nat} (hf : f < n) (hb : beg t gap f) : cnt t gap f < cnt t gap n := by
  have := cnt_le_of (t := t) (gap := gap) (show f + 1 ≤ n by omega)
  rw [cnt_b hb] at this
  omega
noncomputable def pkV (t : Nat → Int) (f e : Nat) : Int := Classical.epsilon (isPk t f e)
theorem isPk_un {t : Nat → Int} {f e : Nat} {v w : Int} (h1 : isPk t f e v) (h2 : isPk t f e w) : v = w := by
  obtain ⟨⟨i, j, a1, a2, a3, a4, a5⟩, h1⟩ := h1
  obtain ⟨⟨i', j', b1, b2, b3, b4, b5⟩, h2⟩ := h2
  have c1 := h1 i' j' b1 b2 b3 b4
  have c2 := h2 i j a1 a2 a3 a4
  omega
theorem pkV_of {t : Nat → Int} {f e : Nat} {v : Int} (h : isPk t f e v) : v = pkV t f e := isPk_un h (Classical.epsilon_spec ⟨v, h⟩)
theorem lossTo_ext {t t' : Nat → Int} {c : Int} {f : Nat} : ∀ d, (∀ j, j ≤ f + d → t j = t' j) → lossTo t c f d = lossTo t' c f d := by
  intro d
  induction d with
  | zero => intro _; rfl
  | succ d ih =>
    intro h
    simp only [lossTo]
    rw [ih (fun j hj => h j (by omega)), h (f + 1 + d) (by omega), h (f + d) (by omega)]
theorem isPk_ext {t t' : Nat → Int} {f e : Nat} {v : Int} (h : ∀ j, j < e → t j = t' j) (hp : isPk t f e v) : isPk t' f e v := by
  obtain ⟨⟨i, j, a1, a2, a3, a4, a5⟩, h1⟩ := hp
  refine ⟨⟨i, j, a1, a2, a3, ?_, a5⟩, fun i' j' b1 b2 b3 b4 => h1 i' j' b1 b2 b3 ?_⟩
  · rw [← h j a3, ← h i (by omega)]; exact a4
  · rw [h j' b3, h i' (by omega)]; exact b4
theorem beg_ext {t t' : Nat → Int} {gap : Int} {i : Nat} (h : ∀ j, j ≤ i → t j = t' j) : beg t gap i ↔ beg t' gap i := by
  unfold beg
  rw [h i (Nat.le_refl _), h (i - 1) (by omega)]
def amtV (cap : Int) (f e : Nat) : Int := ((e : Int) - f) * cap
noncomputable def vSto (Ψ : Fs) (k w : Int) : Int :=
  if ¬ (0 ≤ k ∧ k < (cnt (k1 Ψ.1.2.2.2) (Ψ.1.1 18) Ψ.1.2.2.2.length : Int)) ∨ ¬ (0 ≤ w ∧ w ≤ 5) then -1 else
  if w = 0 then (sF (k1 Ψ.1.2.2.2) (Ψ.1.1 18) Ψ.1.2.2.2.length k.toNat : Int)
  else if w = 1 then (sF (k1 Ψ.1.2.2.2) (Ψ.1.1 18) Ψ.1.2.2.2.length (k.toNat + 1) : Int) - sF (k1 Ψ.1.2.2.2) (Ψ.1.1 18) Ψ.1.2.2.2.length k.toNat
  else if w = 2 then k1 Ψ.1.2.2.2 (sF (k1 Ψ.1.2.2.2) (Ψ.1.1 18) Ψ.1.2.2.2.length (k.toNat + 1) - 1) - k1 Ψ.1.2.2.2 (sF (k1 Ψ.1.2.2.2) (Ψ.1.1 18) Ψ.1.2.2.2.length k.toNat)
  else if w = 3 then amtV (Ψ.1.1 11) (sF (k1 Ψ.1.2.2.2) (Ψ.1.1 18) Ψ.1.2.2.2.length k.toNat) (sF (k1 Ψ.1.2.2.2) (Ψ.1.1 18) Ψ.1.2.2.2.length (k.toNat + 1))
  else if w = 4 then lossTo (k1 Ψ.1.2.2.2) (Ψ.1.1 11 * Ψ.1.1 12) (sF (k1 Ψ.1.2.2.2) (Ψ.1.1 18) Ψ.1.2.2.2.length k.toNat) (sF (k1 Ψ.1.2.2.2) (Ψ.1.1 18) Ψ.1.2.2.2.length (k.toNat + 1) - sF (k1 Ψ.1.2.2.2) (Ψ.1.1 18) Ψ.1.2.2.2.length k.toNat - 1)
  else pkV (k1 Ψ.1.2.2.2) (sF (k1 Ψ.1.2.2.2) (Ψ.1.1 18) Ψ.1.2.2.2.length k.toNat) (sF (k1 Ψ.1.2.2.2) (Ψ.1.1 18) Ψ.1.2.2.2.length (k.toNat + 1))
set_option maxRecDepth 100000 in
set_option maxHeartbeats 4000000 in
theorem c_amountOf (lc : Launch) (G : Gc) (E : Wd) (nh : Nat) {Ψ : Fs} {f e : Nat} (h : isX G E Ψ) (hfe : f ≤ e ∧ e ≤ 60) : CI lc G 0 yX11_amountOf cX11_amountOf 3 .int [.ref (gb G + 0), .int (iI (f : Int)), .int (iI (e : Int))] E nh 0 0 (fun r E' => r = amtV (Ψ.1.1 11) f e ∧ E' = E) := by
  refine CI.mk (by decide +kernel) rfl (Nat.le_of_ble_eq_true rfl) ?_
  intro X hG hL cx hR hI
  subst hG; subst hL
  show V X E (nh, 0, 0) 0 [some (.ref (gb (fG X) + 0)), some (.int (iI (f : Int))), some (.int (iI (e : Int)))] []
  obtain ⟨⟨s, sh, ge, mk⟩, hs, tx⟩ := Ψ
  obtain ⟨hxr, hS, hH⟩ := h.split
  simp only at hS hH hxr
  obtain ⟨st, n, b, l, r, fc, fd, B, cr, cn, ng, gf, gs, nm, t, p, v, tk, fell, ⟨s0, s1, s2, s3, s4, s5, s6, s7⟩, q1, q2, q3, q4, q5, q6, q7, ⟨q8, q8n⟩, ⟨q9, q9n⟩, q10, q11⟩ := id hS
  have hx0 := hxr.1
  have a0 : st 0 = s 11 := q1 0 (by omega)
  refine v_iload_n (pc := 0) cx rfl ga2 dX11_amountOf_0 ?_
  refine v_iload_n (pc := 1) cx rfl ga1 dX11_amountOf_1 ?_
  refine v_isub (pc := 2) cx dX11_amountOf_2 ?_
  refine v_aload_n (pc := 3) cx rfl ga0 dX11_amountOf_3 ?_
  refine v_getfield (pc := 4) cx flX11_10 (by assumption) gf0 dX11_amountOf_4 ?_
  refine v_getfield (pc := 7) cx flX11_111 (by assumption) gf0 dX11_amountOf_7 ?_
  refine v_iconst (pc := 10) cx dX11_amountOf_10 ?_
  refine v_iaload (pc := 11) cx (0) (by assumption) (by omega) dX11_amountOf_11 ?_
  refine v_imul (pc := 12) cx dX11_amountOf_12 ?_
  refine v_ireturn (pc := 13) cx hI rfl ?_ dX11_amountOf_13
  refine ⟨?_, rfl⟩
  unfold amtV
  rw [a0]
theorem mul_bd {a b : Int} (ha : 20 ≤ a ∧ a ≤ 500) (hb : 0 ≤ b ∧ b ≤ 20) : 0 ≤ a * b ∧ a * b ≤ 10000 := by
  refine ⟨Int.mul_nonneg (by omega) hb.1, ?_⟩
  have h1 : a * b ≤ 500 * b := Int.mul_le_mul_of_nonneg_right ha.2 hb.1
  omega
set_option maxRecDepth 100000 in
set_option maxHeartbeats 4000000 in
theorem c_lossOf (lc : Launch) (G : Gc) (E : Wd) (nh : Nat) {Ψ : Fs} {f e : Nat} (h : isX G E Ψ) (hk : okX Ψ) (hfe : f < e ∧ e ≤ Ψ.1.2.2.2.length) : CI lc G 3 yX11_lossOf cX11_lossOf 3 .int [.ref (gb G + 0), .int (iI (f : Int)), .int (iI (e : Int))] E nh 0 0 (fun r E' => r = lossTo (k1 Ψ.1.2.2.2) (Ψ.1.1 11 * Ψ.1.1 12) f (e - f - 1) ∧ E' = E) := by
  refine CI.mk (by decide +kernel) rfl (Nat.le_of_ble_eq_true rfl) ?_
  intro X hG hL cx hR hI
  subst hG; subst hL
  show V X E (nh, 0, 0) 0 [some (.ref (gb (fG X) + 0)), some (.int (iI (f : Int))), some (.int (iI (e : Int)))] []
  obtain ⟨⟨s, sh, ge, mk⟩, hs, tx⟩ := Ψ
  obtain ⟨hxr, hS, hH⟩ := h.split
  obtain ⟨⟨hsc, hse, hsh, hge, hmk⟩, -, -⟩ := hk
  simp only at hS hH hxr hsc hse hmk hfe
  obtain ⟨st, n, b, l, r, fc, fd, B, cr, cn, ng, gf, gs, nm, t, p, v, tk, fell, ⟨s0, s1, s2, s3, s4, s5, s6, s7⟩, q1, q2, q3, q4, q5, q6, q7, ⟨q8, q8n⟩, ⟨q9, q9n⟩, q10, q11⟩ := id hS
  simp only at q9
  subst q9
  rw [lst_len] at hfe
  have hx0 := hxr.1
  have a0 : st 0 = s 11 := q1 0 (by omega)
  have a1 : st 1 = s 12 := q1 1 (by omega)
  have s70 := s7.1
  refine v_aload_n (pc := 0) cx rfl ga0 dX11_lossOf_0 ?_
  refine v_getfield (pc := 1) cx flX11_10 (by assumption) gf0 dX11_lossOf_1 ?_
  refine v_getfield (pc := 4) cx flX11_142 (by assumption) gf6 dX11_lossOf_4 ?_
  refine v_iload_n (pc := 7) cx rfl ga1 dX11_lossOf_7 ?_
  refine v_iload_n (pc := 8) cx rfl ga2 dX11_lossOf_8 ?_
  refine v_aload_n (pc := 9) cx rfl ga0 dX11_lossOf_9 ?_
  refine v_getfield (pc := 10) cx flX11_10 (by assumption) gf0 dX11_lossOf_10 ?_
  refine v_getfield (pc := 13) cx flX11_111 (by assumption) gf0 dX11_lossOf_13 ?_
  refine v_iconst (pc := 16) cx dX11_lossOf_16 ?_
  refine v_iaload (pc := 17) cx (0) (by assumption) (by omega) dX11_lossOf_17 ?_
  refine v_aload_n (pc := 18) cx rfl ga0 dX11_lossOf_18 ?_
  refine v_getfield (pc := 19) cx flX11_10 (by assumption) gf0 dX11_lossOf_19 ?_
  refine v_getfield (pc := 22) cx flX11_111 (by assumption) gf0 dX11_lossOf_22 ?_
  refine v_iconst (pc := 25) cx dX11_lossOf_25 ?_
  refine v_iaload (pc := 26) cx (1) (by assumption) (by omega) dX11_lossOf_26 ?_
  refine v_imul (pc := 27) cx dX11_lossOf_27 ?_
  rw [a0, a1]
  refine v_callVI (pc := 28) cx hR (c_Mk_loss _ _ _ _ s7 q9n (okT_of hmk hsc.1.2) hfe.1 hfe.2 (mul_bd hse.1 hse.2.1)) mlX11_258 (by decide) (by assumption) rfl rfl rfl (Nat.le_of_ble_eq_true rfl) ⟨Nat.le_refl _, Nat.le_refl _⟩ dX11_lossOf_28 (fun r2 E2 hP => ?_)
  obtain ⟨rfl, rfl⟩ := hP
  refine v_ireturn (pc := 31) cx hI rfl ?_ dX11_lossOf_31
  refine ⟨?_, rfl⟩
  exact lossTo_ext _ (fun j hj => (k_lst (by omega)).1.symm)
set_option maxRecDepth 100000 in
set_option maxHeartbeats 4000000 in
theorem c_storm (lc : Launch) (G : Gc) (E : Wd) (nh : Nat) {Ψ : Fs} {k w : Int} (h : isX G E Ψ) (hk : okX Ψ) (hb0 : -2147483648 ≤ k ∧ k < 2147483648) (hw : -2147483648 ≤ w ∧ w < 2147483648) : CI lc G 5 yX11_storm cX11_storm 6 .int [.ref (gb G + 0), .int (iI k), .int (iI w)] E nh 0 0 (fun r E' => r = vSto Ψ k w ∧ E' = E) := by
  refine CI.mk (by decide +kernel) rfl (Nat.le_of_ble_eq_true rfl) ?_
  intro X hG hL cx hR hI
  subst hG; subst hL
  show V X E (nh, 0, 0) 0 [some (.ref (gb (fG X) + 0)), some (.int (iI k)), some (.int (iI w)), none, none, none] []
  have hX := h
  have hk0 := hk
  obtain ⟨⟨s, sh, ge, mk⟩, hs, tx⟩ := Ψ
  obtain ⟨hxr, hS, hH⟩ := h.split
  obtain ⟨⟨hsc, hse, hsh, hge, hmk⟩, -, -⟩ := hk
  simp only at hS hH hxr hsc hse hmk
  obtain ⟨st, n, b, l, r, fc, fd, B, cr, cn, ng, gf, gs, nm, t, p, v, tk, fell, ⟨s0, s1, s2, s3, s4, s5, s6, s7⟩, q1, q2, q3, q4, q5, q6, q7, ⟨q8, q8n⟩, ⟨q9, q9n⟩, q10, q11⟩ := id hS
  simp only at q9
  subst q9
  have hx0 := hxr.1
  have a0 : st 0 = s 11 := q1 0 (by omega)
  have a7 : st 7 = s 18 := q1 7 (by omega)
  have hT := okT_of hmk hsc.1.2
  have hg := hse.2.2.2.2.2.2.2
  obtain ⟨s70, s71, s72, s73⟩ := id s7
  have hcn : cnt (k1 (lst t p v nm)) (s 18) (lst t p v nm).length = cnt t (s 18) nm := by rw [lst_len]; exact cnt_ext nm (fun j hj => (k_lst hj).1)
  have hbx : ∀ i, i < nm → (beg t (s 18) i ↔ beg (k1 (lst t p v nm)) (s 18) i) := fun i hi => beg_ext (fun j hj => (k_lst (by omega)).1.symm)
  have hcx : ∀ i, i ≤ nm → cnt (k1 (lst t p v nm)) (s 18) i = cnt t (s 18) i := fun i hi => cnt_ext i (fun j hj => (k_lst (by omega)).1)
  refine v_aload_n (pc := 0) cx rfl ga0 dX11_storm_0 ?_
  refine v_getfield (pc := 1) cx flX11_10 (by assumption) gf0 dX11_storm_1 ?_
  refine v_getfield (pc := 4) cx flX11_111 (by assumption) gf0 dX11_storm_4 ?_
  refine v_bipush (pc := 7) cx (by decide) dX11_storm_7 ?_
  refine v_iaload (pc := 9) cx (7) (by assumption) (by omega) dX11_storm_9 ?_
  refine v_istore_n (pc := 10) cx rfl (sa3 rfl) dX11_storm_10 ?_
  refine v_aload_n (pc := 11) cx rfl ga0 dX11_storm_11 ?_
  refine v_getfield (pc := 12) cx flX11_10 (by assumption) gf0 dX11_storm_12 ?_
  refine v_getfield (pc := 15) cx flX11_142 (by assumption) gf6 dX11_storm_15 ?_
  refine v_iload_n (pc := 18) cx rfl ga1 dX11_storm_18 ?_
  refine v_iload_n (pc := 19) cx rfl ga3 dX11_storm_19 ?_
  rw [a7]
  refine v_callVI (pc := 20) cx hR (c_Mk_firstOfStorm _ _ _ _ s7 q9n hT hg hb0) mlX11_197 (by decide) (by assumption) rfl rfl rfl (Nat.le_of_ble_eq_true rfl) ⟨Nat.le_refl _, Nat.le_refl _⟩ dX11_storm_20 (fun r1 E1 hP => ?_)
  obtain ⟨hor, rfl⟩ := hP
  rcases hor with ⟨f, f1, f2, f3, rfl⟩ | ⟨rfl, hno⟩
  · refine v_istore (pc := 23) cx (sa4 rfl) dX11_storm_23 ?_
    refine v_iload (pc := 25) cx ga4 dX11_storm_25 ?_
    refine v_iconst (pc := 27) cx dX11_storm_27 ?_
    refine v_icmp_ne (pc := 28) cx 33 dX11_storm_28 rfl (by omega) (fun c28 => ?_) (fun c28 => ?_)
    · refine v_aload_n (pc := 33) cx rfl ga0 dX11_storm_33 ?_
      refine v_getfield (pc := 34) cx flX11_10 (by assumption) gf0 dX11_storm_34 ?_
      refine v_getfield (pc := 37) cx flX11_142 (by assumption) gf6 dX11_storm_37 ?_
      refine v_iload (pc := 40) cx ga4 dX11_storm_40 ?_
      refine v_iload_n (pc := 42) cx rfl ga3 dX11_storm_42 ?_
      refine v_callVI (pc := 43) cx hR (c_Mk_endOfStorm _ _ _ _ s7 q9n hT hg f1) mlX11_200 (by decide) (by assumption) rfl rfl rfl (Nat.le_of_ble_eq_true rfl) ⟨Nat.le_refl _, Nat.le_refl _⟩ dX11_storm_43 (fun r2 E2 hP => ?_)
      obtain ⟨⟨e, e1, e2, e3, e4, rfl⟩, rfl⟩ := hP
      have hkn : k.toNat = cnt t (s 18) f := by omega
      have hsf : sF (k1 (lst t p v nm)) (s 18) (lst t p v nm).length k.toNat = f := by
        rw [lst_len, hkn, ← hcx f (by omega)]
        exact sF_first f1 ((hbx f f1).mp f2)
      have hse2 : sF (k1 (lst t p v nm)) (s 18) (lst t p v nm).length (k.toNat + 1) = e := by
        rw [lst_len, hkn, ← hcx f (by omega)]
        refine sF_end ((hbx f f1).mp f2) e1 e2 (fun j hj1 hj2 hb => e3 j hj1 hj2 ((hbx j (by omega)).mpr hb)) ?_
        rcases e4 with e4 | e4
        · exact Or.inl e4
        · by_cases q : e = nm
          · exact Or.inl q
          · exact Or.inr ((hbx e (by omega)).mp e4)
      have hlt := cnt_lt f1 f2
      have hin : 0 ≤ k ∧ k < (cnt (k1 (lst t p v nm)) (s 18) (lst t p v nm).length : Int) := by rw [hcn]; omega
      refine v_istore (pc := 46) cx (sa5 rfl) dX11_storm_46 ?_
      refine v_iload_n (pc := 48) cx rfl ga2 dX11_storm_48 ?_
      rcases (show w = 0 ∨ w = 1 ∨ w = 2 ∨ w = 3 ∨ w = 4 ∨ w = 5 ∨ (w < 0 ∨ 5 < w) by omega) with rfl | rfl | rfl | rfl | rfl | rfl | hw2
      · refine v_tableIn (pc := 49) cx 88 dX11_storm_49 (by omega) rfl rfl ?_
        refine v_iload (pc := 88) cx ga4 dX11_storm_88 ?_
        refine v_ireturn (pc := 90) cx hI rfl ?_ dX11_storm_90
        refine ⟨?_, rfl⟩
        unfold vSto
        simp only [hsf, hse2]
        rw [if_neg (by omega)]
        rfl
      · refine v_tableIn (pc := 49) cx 91 dX11_storm_49 (by omega) rfl rfl ?_
        refine v_iload (pc := 91) cx ga5 dX11_storm_91 ?_
        refine v_iload (pc := 93) cx ga4 dX11_storm_93 ?_
        refine v_isub (pc := 95) cx dX11_storm_95 ?_
        refine v_ireturn (pc := 96) cx hI rfl ?_ dX11_storm_96
        refine ⟨?_, rfl⟩
        unfold vSto
        simp only [hsf, hse2]
        rw [if_neg (by omega)]
        rfl
      · refine v_tableIn (pc := 49) cx 97 dX11_storm_49 (by omega) rfl rfl ?_
        refine v_aload_n (pc := 97) cx rfl ga0 dX11_storm_97 ?_
        refine v_getfield (pc := 98) cx flX11_10 (by assumption) gf0 dX11_storm_98 ?_
        refine v_getfield (pc := 101) cx flX11_142 (by assumption) gf6 dX11_storm_101 ?_
        refine v_iload (pc := 104) cx ga4 dX11_storm_104 ?_
        refine v_iload (pc := 106) cx ga5 dX11_storm_106 ?_
        refine v_iconst (pc := 108) cx dX11_storm_108 ?_
        refine v_isub (pc := 109) cx dX11_storm_109 ?_
        rw [show ((e : Int) - 1) = ((e - 1 : Nat) : Int) by omega]
        refine v_callVI (pc := 110) cx hR (c_Mk_ticksBetween _ _ _ _ s7 q9n (by omega) (by omega)) mlX11_203 (by decide) (by assumption) rfl rfl rfl (Nat.le_of_ble_eq_true rfl) ⟨Nat.le_refl _, Nat.le_refl _⟩ dX11_storm_110 (fun r3 E3 hP => ?_)
        obtain ⟨rfl, rfl⟩ := hP
        refine v_ireturn (pc := 113) cx hI rfl ?_ dX11_storm_113
        refine ⟨?_, rfl⟩
        unfold vSto
        simp only [hsf, hse2, (k_lst (b := t) (l := p) (r := v) (show e - 1 < nm by omega)).1, (k_lst (b := t) (l := p) (r := v) (show f < nm by omega)).1]
        rw [if_neg (by omega)]
        rfl
      · refine v_tableIn (pc := 49) cx 114 dX11_storm_49 (by omega) rfl rfl ?_
        refine v_aload_n (pc := 114) cx rfl ga0 dX11_storm_114 ?_
        refine v_iload (pc := 115) cx ga4 dX11_storm_115 ?_
        refine v_iload (pc := 117) cx ga5 dX11_storm_117 ?_
        refine v_callVI (pc := 119) cx hR (c_amountOf _ _ _ _ hX (by omega)) mlX11_206 (by decide) (by assumption) rfl rfl rfl (Nat.le_of_ble_eq_true rfl) ⟨Nat.le_refl _, Nat.le_refl _⟩ dX11_storm_119 (fun r3 E3 hP => ?_)
        obtain ⟨rfl, rfl⟩ := hP
        refine v_ireturn (pc := 122) cx hI rfl ?_ dX11_storm_122
        refine ⟨?_, rfl⟩
        unfold vSto
        simp only [hsf, hse2]
        rw [if_neg (by omega)]
        rfl
      · refine v_tableIn (pc := 49) cx 123 dX11_storm_49 (by omega) rfl rfl ?_
        refine v_aload_n (pc := 123) cx rfl ga0 dX11_storm_123 ?_
        refine v_iload (pc := 124) cx ga4 dX11_storm_124 ?_
        refine v_iload (pc := 126) cx ga5 dX11_storm_126 ?_
        refine v_callVI (pc := 128) cx hR (c_lossOf _ _ _ _ hX hk0 ⟨e1, by simp only [lst_len]; exact e2⟩) mlX11_209 (by decide) (by assumption) rfl rfl rfl (Nat.le_of_ble_eq_true rfl) ⟨Nat.le_refl _, Nat.le_refl _⟩ dX11_storm_128 (fun r3 E3 hP => ?_)
        obtain ⟨rfl, rfl⟩ := hP
        refine v_ireturn (pc := 131) cx hI rfl ?_ dX11_storm_131
        refine ⟨?_, rfl⟩
        unfold vSto
        simp only [hsf, hse2]
        rw [if_neg (by omega)]
        rfl
      · refine v_tableIn (pc := 49) cx 132 dX11_storm_49 (by omega) rfl rfl ?_
        refine v_aload_n (pc := 132) cx rfl ga0 dX11_storm_132 ?_
        refine v_getfield (pc := 133) cx flX11_10 (by assumption) gf0 dX11_storm_133 ?_
        refine v_getfield (pc := 136) cx flX11_142 (by assumption) gf6 dX11_storm_136 ?_
        refine v_iload (pc := 139) cx ga4 dX11_storm_139 ?_
        refine v_iload (pc := 141) cx ga5 dX11_storm_141 ?_
        refine v_callVI (pc := 143) cx hR (c_Mk_peak _ _ _ _ s7 q9n hT e1 e2) mlX11_212 (by decide) (by assumption) rfl rfl rfl (Nat.le_of_ble_eq_true rfl) ⟨Nat.le_refl _, Nat.le_refl _⟩ dX11_storm_143 (fun r3 E3 hP => ?_)
        obtain ⟨hpk, rfl⟩ := hP
        refine v_ireturn (pc := 146) cx hI rfl ?_ dX11_storm_146
        refine ⟨?_, rfl⟩
        unfold vSto
        simp only [hsf, hse2]
        rw [if_neg (by omega)]
        exact pkV_of (isPk_ext (fun j hj => (k_lst (by omega)).1.symm) hpk)
      · refine v_tableOut (pc := 49) cx 147 dX11_storm_49 (by omega) rfl ?_
        refine v_iconst (pc := 147) cx dX11_storm_147 ?_
        refine v_ireturn (pc := 148) cx hI rfl ?_ dX11_storm_148
        refine ⟨?_, rfl⟩
        unfold vSto
        rw [if_pos (by omega)]
    · omega
  · refine v_istore (pc := 23) cx (sa4 rfl) dX11_storm_23 ?_
    refine v_iload (pc := 25) cx ga4 dX11_storm_25 ?_
    refine v_iconst (pc := 27) cx dX11_storm_27 ?_
    refine v_icmp_ne (pc := 28) cx 33 dX11_storm_28 rfl (by omega) (fun c28 => ?_) (fun c28 => ?_)
    · omega
    · refine v_iconst (pc := 31) cx dX11_storm_31 ?_
      refine v_ireturn (pc := 32) cx hI rfl ?_ dX11_storm_32
      refine ⟨?_, rfl⟩
      unfold vSto
      simp only
      rw [hcn, if_pos]
      left
      intro hq
      obtain ⟨f, f1, f2, f3⟩ := cnt_find (t := t) (gap := s 18) (k := k.toNat) nm (by omega)
      exact hno f f1 f2 (by omega)
/-- a storm's amount and loss -/
def sSum (Ψ : Fs) (k : Nat) : Int := amtV (Ψ.1.1 11) (sF (k1 Ψ.1.2.2.2) (Ψ.1.1 18) Ψ.1.2.2.2.length k) (sF (k1 Ψ.1.2.2.2) (Ψ.1.1 18) Ψ.1.2.2.2.length (k + 1)) + lossTo (k1 Ψ.1.2.2.2) (Ψ.1.1 11 * Ψ.1.1 12) (sF (k1 Ψ.1.2.2.2) (Ψ.1.1 18) Ψ.1.2.2.2.length k) (sF (k1 Ψ.1.2.2.2) (Ψ.1.1 18) Ψ.1.2.2.2.length (k + 1) - sF (k1 Ψ.1.2.2.2) (Ψ.1.1 18) Ψ.1.2.2.2.length k - 1)
def grB (Ψ : Fs) : Nat → Int × Int
  | 0 => (-4, -1)
  | k + 1 => if (grB Ψ k).2 < sSum Ψ k then ((k : Int), sSum Ψ k) else grB Ψ k
def vGre2 (Ψ : Fs) : Int := (grB Ψ (cnt (k1 Ψ.1.2.2.2) (Ψ.1.1 18) Ψ.1.2.2.2.length)).1
/-- where the k-th storm lies -/
theorem sF_at {t : Nat → Int} {gap : Int} {n k : Nat} (hk : k < cnt t gap n) : sF t gap n k < sF t gap n (k + 1) ∧ sF t gap n (k + 1) ≤ n ∧ beg t gap (sF t gap n k) ∧ cnt t gap (sF t gap n k) = k := by
  obtain ⟨f, h1, h2, h3⟩ := cnt_find n hk
  have e1 : sF t gap n k = f := by rw [← h3]; exact sF_first h1 h2
  rw [e1]
  by_cases hk2 : k + 1 < cnt t gap n
  · obtain ⟨e, g1, g2, g3⟩ := cnt_find n hk2
    have e2 : sF t gap n (k + 1) = e := by rw [← g3]; exact sF_first g1 g2
    rw [e2]
    refine ⟨?_, by omega, h2, h3⟩
    rcases Nat.lt_or_ge f e with q | q
    · exact q
    · have := cnt_le_of (t := t) (gap := gap) q
      omega
  · have e2 : sF t gap n (k + 1) = n := by
      unfold sF
      rw [sxN_of (f := n) n (fun i hi _ => by have := cnt_le_of (t := t) (gap := gap) (show i + 1 ≤ n by omega); omega) (fun i hi hin => by omega)]
      omega
    rw [e2]
    exact ⟨h1, Nat.le_refl _, h2, h3⟩
theorem sSum_bd {Ψ : Fs} (hk : okX Ψ) {k : Nat} (h : k < cnt (k1 Ψ.1.2.2.2) (Ψ.1.1 18) Ψ.1.2.2.2.length) : 0 ≤ sSum Ψ k ∧ sSum Ψ k ≤ 1000000 := by
  obtain ⟨⟨hsc, hse, hsh, hge, hmk⟩, -, -⟩ := hk
  obtain ⟨h1, h2, h3, h4⟩ := sF_at h
  unfold sSum
  generalize sF (k1 Ψ.1.2.2.2) (Ψ.1.1 18) Ψ.1.2.2.2.length k = f at *
  generalize sF (k1 Ψ.1.2.2.2) (Ψ.1.1 18) Ψ.1.2.2.2.length (k + 1) = e at *
  have hlen := hmk.1
  have hT : okT (k1 Ψ.1.2.2.2) Ψ.1.2.2.2.length := by
    have e0 : Ψ.1.2.2.2 = lst (k1 Ψ.1.2.2.2) (k2 Ψ.1.2.2.2) (k3 Ψ.1.2.2.2) Ψ.1.2.2.2.length := by
      apply List.ext_getElem
      · rw [lst_len]
      · intro i hi1 hi2
        simp [lst, k1, k2, k3, List.getD_eq_getElem?_getD, hi1]
    exact okT_of (p := k2 Ψ.1.2.2.2) (v := k3 Ψ.1.2.2.2) (by rw [← e0]; exact hmk) hsc.1.2
  have hb := lossTo_bd hT (mul_bd hse.1 hse.2.1) (f := f) (e - f - 1) (by omega)
  have ha : 0 ≤ amtV (Ψ.1.1 11) f e ∧ amtV (Ψ.1.1 11) f e ≤ 30000 := by
    unfold amtV
    refine ⟨Int.mul_nonneg (by omega) (by have := hse.1; omega), ?_⟩
    have g1 : ((e : Int) - f) * Ψ.1.1 11 ≤ 60 * Ψ.1.1 11 := Int.mul_le_mul_of_nonneg_right (by omega) (by have := hse.1; omega)
    have := hse.1
    omega
  omega
theorem grB_bd {Ψ : Fs} (hk : okX Ψ) : ∀ k, k ≤ cnt (k1 Ψ.1.2.2.2) (Ψ.1.1 18) Ψ.1.2.2.2.length → -1 ≤ (grB Ψ k).2 ∧ (grB Ψ k).2 ≤ 1000000 := by
  intro k
  induction k with
  | zero => intro _; simp [grB]
  | succ k ih =>
    intro h
    have h1 := ih (by omega)
    have h2 := sSum_bd hk (show k < _ by omega)
    simp only [grB]
    split
    · simp only; omega
    · exact h1
set_option maxRecDepth 100000 in
set_option maxHeartbeats 4000000 in
theorem c_greatestStorm (lc : Launch) (G : Gc) (E : Wd) (nh : Nat) {Ψ : Fs} (h : isX G E Ψ) (hk : okX Ψ) : CI lc G 5 yX11_greatestStorm cX11_greatestStorm 9 .int [.ref (gb G + 0)] E nh 0 0 (fun r E' => r = vGre2 Ψ ∧ E' = E) := by
  refine CI.mk (by decide +kernel) rfl (Nat.le_of_ble_eq_true rfl) ?_
  intro X hG hL cx hR hI
  subst hG; subst hL
  show V X E (nh, 0, 0) 0 [some (.ref (gb (fG X) + 0)), none, none, none, none, none, none, none, none] []
  have hX := h
  have hk0 := hk
  obtain ⟨⟨s, sh, ge, mk⟩, hs, tx⟩ := Ψ
  obtain ⟨hxr, hS, hH⟩ := h.split
  obtain ⟨⟨hsc, hse, hsh, hge, hmk⟩, -, -⟩ := hk
  simp only at hS hH hxr hsc hse hmk
  obtain ⟨st, n, b, l, r, fc, fd, B, cr, cn, ng, gf, gs, nm, t, p, v, tk, fell, ⟨s0, s1, s2, s3, s4, s5, s6, s7⟩, q1, q2, q3, q4, q5, q6, q7, ⟨q8, q8n⟩, ⟨q9, q9n⟩, q10, q11⟩ := id hS
  simp only at q9
  subst q9
  have hx0 := hxr.1
  have a7 : st 7 = s 18 := q1 7 (by omega)
  have hT := okT_of hmk hsc.1.2
  have hg := hse.2.2.2.2.2.2.2
  obtain ⟨s70, s71, s72, s73⟩ := id s7
  have hcn : cnt (k1 (lst t p v nm)) (s 18) (lst t p v nm).length = cnt t (s 18) nm := by rw [lst_len]; exact cnt_ext nm (fun j hj => (k_lst hj).1)
  have hbx : ∀ i, i < nm → (beg t (s 18) i ↔ beg (k1 (lst t p v nm)) (s 18) i) := fun i hi => beg_ext (fun j hj => (k_lst (by omega)).1.symm)
  have hcx : ∀ i, i ≤ nm → cnt (k1 (lst t p v nm)) (s 18) i = cnt t (s 18) i := fun i hi => cnt_ext i (fun j hj => (k_lst (by omega)).1)
  have hcl := cnt_le t (s 18) nm
  have hgb := grB_bd hk0
  have hsb := fun k => sSum_bd hk0 (k := k)
  simp only [hcn] at hgb hsb
  have loop : ∀ (d k : Nat) (x6 x7 x8 : Option Value), k ≤ cnt t (s 18) nm → cnt t (s 18) nm - k < d → c1 x6 = true → c1 x7 = true → V X E (nh, 0, 0) 32 [some (.ref (gb (fG X) + 0)), some (.int (iI (s 18))), some (.int (iI (cnt t (s 18) nm : Int))), some (.int (iI (grB ((s, sh, ge, lst t p v nm), hs, tx) k).1)), some (.int (iI (grB ((s, sh, ge, lst t p v nm), hs, tx) k).2)), some (.int (iI (k : Int))), x6, x7, x8] [] := by
    intro d
    induction d with
    | zero => intro k x6 x7 x8 hk hd; omega
    | succ d ih =>
      intro k x6 x7 x8 hk hd c6 c7
      have b1 := hgb k hk
      refine v_iload (pc := 32) cx ga5 dX11_greatestStorm_32 ?_
      refine v_iload_n (pc := 34) cx rfl ga2 dX11_greatestStorm_34 ?_
      refine v_icmp_ge (pc := 35) cx 107 dX11_greatestStorm_35 rfl (by omega) (fun c35 => ?_) (fun c35 => ?_)
      · have e : k = cnt t (s 18) nm := by omega
        refine v_iload_n (pc := 107) cx rfl ga3 dX11_greatestStorm_107 ?_
        refine v_ireturn (pc := 108) cx hI rfl ?_ dX11_greatestStorm_108
        refine ⟨?_, rfl⟩
        unfold vGre2
        simp only [hcn]
        rw [e]
      · have b2 := hsb k (by omega)
        refine v_aload_n (pc := 38) cx rfl ga0 dX11_greatestStorm_38 ?_
        refine v_getfield (pc := 39) cx flX11_10 (by assumption) gf0 dX11_greatestStorm_39 ?_
        refine v_getfield (pc := 42) cx flX11_142 (by assumption) gf6 dX11_greatestStorm_42 ?_
        refine v_iload (pc := 45) cx ga5 dX11_greatestStorm_45 ?_
        refine v_iload_n (pc := 47) cx rfl ga1 dX11_greatestStorm_47 ?_
        refine v_callVI (pc := 48) cx hR (c_Mk_firstOfStorm _ _ _ _ s7 q9n hT hg (by omega)) mlX11_197 (by decide) (by assumption) rfl rfl rfl (Nat.le_of_ble_eq_true rfl) ⟨Nat.le_refl _, Nat.le_refl _⟩ dX11_greatestStorm_48 (fun r1 E1 hP => ?_)
        obtain ⟨hor, rfl⟩ := hP
        rcases hor with ⟨f, f1, f2, f3, rfl⟩ | ⟨rfl, hno⟩
        · refine v_istore (pc := 51) cx (sa6 rfl) dX11_greatestStorm_51 ?_
          refine v_aload_n (pc := 53) cx rfl ga0 dX11_greatestStorm_53 ?_
          refine v_getfield (pc := 54) cx flX11_10 (by assumption) gf0 dX11_greatestStorm_54 ?_
          refine v_getfield (pc := 57) cx flX11_142 (by assumption) gf6 dX11_greatestStorm_57 ?_
          refine v_iload (pc := 60) cx ga6 dX11_greatestStorm_60 ?_
          refine v_iload_n (pc := 62) cx rfl ga1 dX11_greatestStorm_62 ?_
          refine v_callVI (pc := 63) cx hR (c_Mk_endOfStorm _ _ _ _ s7 q9n hT hg f1) mlX11_200 (by decide) (by assumption) rfl rfl rfl (Nat.le_of_ble_eq_true rfl) ⟨Nat.le_refl _, Nat.le_refl _⟩ dX11_greatestStorm_63 (fun r2 E2 hP => ?_)
          obtain ⟨⟨e, e1, e2, e3, e4, rfl⟩, rfl⟩ := hP
          have hkn : k = cnt t (s 18) f := by omega
          have hsf : sF (k1 (lst t p v nm)) (s 18) (lst t p v nm).length k = f := by
            rw [lst_len, hkn, ← hcx f (by omega)]
            exact sF_first f1 ((hbx f f1).mp f2)
          have hse2 : sF (k1 (lst t p v nm)) (s 18) (lst t p v nm).length (k + 1) = e := by
            rw [lst_len, hkn, ← hcx f (by omega)]
            refine sF_end ((hbx f f1).mp f2) e1 e2 (fun j hj1 hj2 hb => e3 j hj1 hj2 ((hbx j (by omega)).mpr hb)) ?_
            rcases e4 with e4 | e4
            · exact Or.inl e4
            · by_cases q : e = nm
              · exact Or.inl q
              · exact Or.inr ((hbx e (by omega)).mp e4)
          refine v_istore (pc := 66) cx (sa7 rfl) dX11_greatestStorm_66 ?_
          refine v_aload_n (pc := 68) cx rfl ga0 dX11_greatestStorm_68 ?_
          refine v_iload (pc := 69) cx ga6 dX11_greatestStorm_69 ?_
          refine v_iload (pc := 71) cx ga7 dX11_greatestStorm_71 ?_
          refine v_callVI (pc := 73) cx hR (c_amountOf _ _ _ _ hX (by omega)) mlX11_206 (by decide) (by assumption) rfl rfl rfl (Nat.le_of_ble_eq_true rfl) ⟨Nat.le_refl _, Nat.le_refl _⟩ dX11_greatestStorm_73 (fun r3 E3 hP => ?_)
          obtain ⟨rfl, rfl⟩ := hP
          refine v_aload_n (pc := 76) cx rfl ga0 dX11_greatestStorm_76 ?_
          refine v_iload (pc := 77) cx ga6 dX11_greatestStorm_77 ?_
          refine v_iload (pc := 79) cx ga7 dX11_greatestStorm_79 ?_
          refine v_callVI (pc := 81) cx hR (c_lossOf _ _ _ _ hX hk0 ⟨e1, by simp only [lst_len]; exact e2⟩) mlX11_209 (by decide) (by assumption) rfl rfl rfl (Nat.le_of_ble_eq_true rfl) ⟨Nat.le_refl _, Nat.le_refl _⟩ dX11_greatestStorm_81 (fun r4 E4 hP => ?_)
          obtain ⟨rfl, rfl⟩ := hP
          have hsum : amtV (s 11) f e + lossTo (k1 (lst t p v nm)) (s 11 * s 12) f (e - f - 1) = sSum ((s, sh, ge, lst t p v nm), hs, tx) k := by
            unfold sSum
            simp only [hsf, hse2]
          refine v_iadd (pc := 84) cx dX11_greatestStorm_84 ?_
          rw [hsum]
          refine v_istore (pc := 85) cx (sa8 rfl) dX11_greatestStorm_85 ?_
          refine v_iload (pc := 87) cx ga8 dX11_greatestStorm_87 ?_
          refine v_iload (pc := 89) cx ga4 dX11_greatestStorm_89 ?_
          refine v_icmp_le (pc := 91) cx 101 dX11_greatestStorm_91 rfl (by omega) (fun c91 => ?_) (fun c91 => ?_)
          · refine v_iinc (pc := 101) cx ga5 (sa5 rfl) dX11_greatestStorm_101 ?_
            refine v_goto (pc := 104) cx 32 dX11_greatestStorm_104 rfl ?_
            have e5 : grB ((s, sh, ge, lst t p v nm), hs, tx) (k + 1) = grB ((s, sh, ge, lst t p v nm), hs, tx) k := by
              simp only [grB]
              rw [if_neg (by omega)]
            rw [← e5]
            exact ih (k + 1) _ _ _ (by omega) (by omega) rfl rfl
          · refine v_iload (pc := 94) cx ga8 dX11_greatestStorm_94 ?_
            refine v_istore (pc := 96) cx (sa4 rfl) dX11_greatestStorm_96 ?_
            refine v_iload (pc := 98) cx ga5 dX11_greatestStorm_98 ?_
            refine v_istore_n (pc := 100) cx rfl (sa3 rfl) dX11_greatestStorm_100 ?_
            refine v_iinc (pc := 101) cx ga5 (sa5 rfl) dX11_greatestStorm_101 ?_
            refine v_goto (pc := 104) cx 32 dX11_greatestStorm_104 rfl ?_
            have e5 : grB ((s, sh, ge, lst t p v nm), hs, tx) (k + 1) = ((k : Int), sSum ((s, sh, ge, lst t p v nm), hs, tx) k) := by
              simp only [grB]
              rw [if_pos (by omega)]
            have := ih (k + 1) (some (.int (iI (f : Int)))) (some (.int (iI (e : Int)))) (some (.int (iI (sSum ((s, sh, ge, lst t p v nm), hs, tx) k)))) (by omega) (by omega) rfl rfl
            rw [e5] at this
            exact this
        · obtain ⟨f, f1, f2, f3⟩ := cnt_find (t := t) (gap := s 18) (k := k) nm (by omega)
          exact absurd (by omega) (hno f f1 f2)
  refine v_aload_n (pc := 0) cx rfl ga0 dX11_greatestStorm_0 ?_
  refine v_getfield (pc := 1) cx flX11_10 (by assumption) gf0 dX11_greatestStorm_1 ?_
  refine v_getfield (pc := 4) cx flX11_111 (by assumption) gf0 dX11_greatestStorm_4 ?_
  refine v_bipush (pc := 7) cx (by decide) dX11_greatestStorm_7 ?_
  refine v_iaload (pc := 9) cx (7) (by assumption) (by omega) dX11_greatestStorm_9 ?_
  refine v_istore_n (pc := 10) cx rfl (sa1 rfl) dX11_greatestStorm_10 ?_
  refine v_aload_n (pc := 11) cx rfl ga0 dX11_greatestStorm_11 ?_
  refine v_getfield (pc := 12) cx flX11_10 (by assumption) gf0 dX11_greatestStorm_12 ?_
  refine v_getfield (pc := 15) cx flX11_142 (by assumption) gf6 dX11_greatestStorm_15 ?_
  refine v_iload_n (pc := 18) cx rfl ga1 dX11_greatestStorm_18 ?_
  rw [a7]
  refine v_callVI (pc := 19) cx hR (c_Mk_countStorms _ _ _ _ s7 q9n hT hg) mlX11_149 (by decide) (by assumption) rfl rfl rfl (Nat.le_of_ble_eq_true rfl) ⟨Nat.le_refl _, Nat.le_refl _⟩ dX11_greatestStorm_19 (fun r1 E1 hP => ?_)
  obtain ⟨rfl, rfl⟩ := hP
  refine v_istore_n (pc := 22) cx rfl (sa2 rfl) dX11_greatestStorm_22 ?_
  refine v_bipush (pc := 23) cx (by decide) dX11_greatestStorm_23 ?_
  refine v_istore_n (pc := 25) cx rfl (sa3 rfl) dX11_greatestStorm_25 ?_
  refine v_iconst (pc := 26) cx dX11_greatestStorm_26 ?_
  refine v_istore (pc := 27) cx (sa4 rfl) dX11_greatestStorm_27 ?_
  refine v_iconst (pc := 29) cx dX11_greatestStorm_29 ?_
  refine v_istore (pc := 30) cx (sa5 rfl) dX11_greatestStorm_30 ?_
  exact loop (cnt t (s 18) nm + 1) 0 none none none (Nat.zero_le _) (by omega) rfl rfl
def vGap (Ψ : Fs) : Int := if Ψ.1.2.2.2.length = 0 then -4 else if 1000 < max 1 (mxG (k1 Ψ.1.2.2.2) Ψ.1.2.2.2.length) then -4 else max 1 (mxG (k1 Ψ.1.2.2.2) Ψ.1.2.2.2.length)
theorem mxG_ext {t t' : Nat → Int} : ∀ m, (∀ j, j < m → t j = t' j) → mxG t m = mxG t' m := by
  intro m
  induction m with
  | zero => intro _; rfl
  | succ m ih =>
    intro h
    simp only [mxG]
    rw [ih (fun j hj => h j (by omega)), h m (by omega), h (m - 1) (by omega)]
set_option maxRecDepth 100000 in
set_option maxHeartbeats 4000000 in
theorem c_gapForOne (lc : Launch) (G : Gc) (E : Wd) (nh : Nat) {Ψ : Fs} (h : isX G E Ψ) (hk : okX Ψ) : CI lc G 5 yX11_gapForOne cX11_gapForOne 2 .int [.ref (gb G + 0)] E nh 0 0 (fun r E' => r = vGap Ψ ∧ E' = E) := by
  refine CI.mk (by decide +kernel) rfl (Nat.le_of_ble_eq_true rfl) ?_
  intro X hG hL cx hR hI
  subst hG; subst hL
  show V X E (nh, 0, 0) 0 [some (.ref (gb (fG X) + 0)), none] []
  obtain ⟨⟨s, sh, ge, mk⟩, hs, tx⟩ := Ψ
  obtain ⟨hxr, hS, hH⟩ := h.split
  obtain ⟨⟨hsc, hse, hsh, hge, hmk⟩, -, -⟩ := hk
  simp only at hS hH hxr hsc hse hmk
  obtain ⟨st, n, b, l, r, fc, fd, B, cr, cn, ng, gf, gs, nm, t, p, v, tk, fell, ⟨s0, s1, s2, s3, s4, s5, s6, s7⟩, q1, q2, q3, q4, q5, q6, q7, ⟨q8, q8n⟩, ⟨q9, q9n⟩, q10, q11⟩ := id hS
  simp only at q9
  subst q9
  have hx0 := hxr.1
  have hT := okT_of hmk hsc.1.2
  obtain ⟨s70, s71, s72, s73⟩ := id s7
  have hmx := mxG_bd hT nm (Nat.le_refl _)
  have emx : mxG (k1 (lst t p v nm)) nm = mxG t nm := mxG_ext nm (fun j hj => (k_lst hj).1)
  refine v_aload_n (pc := 0) cx rfl ga0 dX11_gapForOne_0 ?_
  refine v_getfield (pc := 1) cx flX11_10 (by assumption) gf0 dX11_gapForOne_1 ?_
  refine v_getfield (pc := 4) cx flX11_142 (by assumption) gf6 dX11_gapForOne_4 ?_
  refine v_getfield (pc := 7) cx flX11_146 (by assumption) gf3 dX11_gapForOne_7 ?_
  refine v_if_ne (pc := 10) cx 16 dX11_gapForOne_10 rfl (by omega) (fun c10 => ?_) (fun c10 => ?_)
  · refine v_iconst (pc := 16) cx dX11_gapForOne_16 ?_
    refine v_aload_n (pc := 17) cx rfl ga0 dX11_gapForOne_17 ?_
    refine v_getfield (pc := 18) cx flX11_10 (by assumption) gf0 dX11_gapForOne_18 ?_
    refine v_getfield (pc := 21) cx flX11_142 (by assumption) gf6 dX11_gapForOne_21 ?_
    refine v_callVI (pc := 24) cx hR (c_Mk_widestGap _ _ _ _ s7 q9n hT) mlX11_215 (by decide) (by assumption) rfl rfl rfl (Nat.le_of_ble_eq_true rfl) ⟨Nat.le_refl _, Nat.le_refl _⟩ dX11_gapForOne_24 (fun r1 E1 hP => ?_)
    obtain ⟨rfl, rfl⟩ := hP
    refine v_callSI (pc := 27) cx hR (c_max _ _ _ _ (by omega)) mlX11_218 (by decide) rfl (Nat.le_of_ble_eq_true rfl) ⟨Nat.le_refl _, Nat.le_refl _⟩ dX11_gapForOne_27 (fun r2 E2 hP => ?_)
    obtain ⟨rfl, rfl⟩ := hP
    refine v_istore_n (pc := 30) cx rfl (sa1 rfl) dX11_gapForOne_30 ?_
    refine v_iload_n (pc := 31) cx rfl ga1 dX11_gapForOne_31 ?_
    refine v_sipush (pc := 32) cx (by decide) dX11_gapForOne_32 ?_
    refine v_icmp_gt (pc := 35) cx 42 dX11_gapForOne_35 rfl (by omega) (fun c35 => ?_) (fun c35 => ?_)
    · refine v_bipush (pc := 42) cx (by decide) dX11_gapForOne_42 ?_
      refine v_ireturn (pc := 44) cx hI rfl ?_ dX11_gapForOne_44
      refine ⟨?_, rfl⟩
      unfold vGap
      simp only [lst_len, emx]
      rw [if_neg (by omega), if_pos (by omega)]
    · refine v_iload_n (pc := 38) cx rfl ga1 dX11_gapForOne_38 ?_
      refine v_goto (pc := 39) cx 44 dX11_gapForOne_39 rfl ?_
      refine v_ireturn (pc := 44) cx hI rfl ?_ dX11_gapForOne_44
      refine ⟨?_, rfl⟩
      unfold vGap
      simp only [lst_len, emx]
      rw [if_neg (by omega), if_neg (by omega)]
  · refine v_bipush (pc := 13) cx (by decide) dX11_gapForOne_13 ?_
    refine v_ireturn (pc := 15) cx hI rfl ?_ dX11_gapForOne_15
    refine ⟨?_, rfl⟩
    unfold vGap
    simp only [lst_len]
    rw [if_pos (by omega)]
end
section
/-! what is kept where two worlds agree -/
def Agr (E E' : Wd) (a b : Nat) : Prop := ∀ j : Nat, a ≤ j → j < b → E' j = E j
theorem Agr.sub {E E' : Wd} {a b c d : Nat} (h : Agr E E' a b) (h1 : a ≤ c) (h2 : d ≤ b) : Agr E E' c d := fun j hj1 hj2 => h j (by omega) (by omega)
theorem rSh.agr {G : Gc} {E E' : Wd} {o : Nat} {n : Int} {b l r : Nat → Int} (h : rSh G E o n b l r) (hE : Agr E E' o (o + 4)) : rSh G E' o n b l r :=
  ⟨(hE _ (by omega) (by omega)).trans h.1, (hE _ (by omega) (by omega)).trans h.2.1, (hE _ (by omega) (by omega)).trans h.2.2.1, (hE _ (by omega) (by omega)).trans h.2.2.2⟩
theorem rMk.agr {G : Gc} {E E' : Wd} {o : Nat} {n : Int} {b l r : Nat → Int} (h : rMk G E o n b l r) (hE : Agr E E' o (o + 4)) : rMk G E' o n b l r :=
  ⟨(hE _ (by omega) (by omega)).trans h.1, (hE _ (by omega) (by omega)).trans h.2.1, (hE _ (by omega) (by omega)).trans h.2.2.1, (hE _ (by omega) (by omega)).trans h.2.2.2⟩
theorem rGe.agr {G : Gc} {E E' : Wd} {o : Nat} {n : Int} {f s : Nat → Int} (h : rGe G E o n f s) (hE : Agr E E' o (o + 3)) : rGe G E' o n f s :=
  ⟨(hE _ (by omega) (by omega)).trans h.1, (hE _ (by omega) (by omega)).trans h.2.1, (hE _ (by omega) (by omega)).trans h.2.2⟩
theorem rSt.agr {G : Gc} {E E' : Wd} {o : Nat} {st : Nat → Int} {n : Nat} {b l r : Nat → Int} {fc fd : Int} {B : BT} {cr cc : Int} {ng : Nat} {gf gs : Nat → Int} {nm : Nat} {t p v : Nat → Int} {tick fell : Int} (h : rSt G E o st n b l r fc fd B cr cc ng gf gs nm t p v tick fell) (hE : Agr E E' o (o + 16)) : rSt G E' o st n b l r fc fd B cr cc ng gf gs nm t p v tick fell := by
  obtain ⟨h0, h1, h2, h3, h4, h5, h6, h7⟩ := h
  exact ⟨(hE _ (by omega) (by omega)).trans h0, (hE _ (by omega) (by omega)).trans h1, h2.agr (hE.sub (by omega) (by omega)), (hE _ (by omega) (by omega)).trans h3, (hE _ (by omega) (by omega)).trans h4, (hE _ (by omega) (by omega)).trans h5, h6.agr (hE.sub (by omega) (by omega)), h7.agr (hE.sub (by omega) (by omega))⟩
theorem isS.agr {G : Gc} {E E' : Wd} {o : Nat} {σ : Sg} (h : isS G E o σ) (hE : Agr E E' o (o + 16)) : isS G E' o σ := by
  obtain ⟨st, n, b, l, r, fc, fd, B, cr, cc, ng, gf, gs, nm, t, p, v, tick, fell, h1, h2⟩ := h
  exact ⟨st, n, b, l, r, fc, fd, B, cr, cc, ng, gf, gs, nm, t, p, v, tick, fell, h1.agr hE, h2⟩
theorem isH.agr {G : Gc} {E E' : Wd} {o : Nat} {hs : List Sg} (h : isH G E o hs) (hE : Agr E E' o (o + 82)) : isH G E' o hs := by
  obtain ⟨a, h0, h1, h2, h3, h4, h5, h6, h7⟩ := h
  refine ⟨a, (hE _ (by omega) (by omega)).trans h0, (hE _ (by omega) (by omega)).trans h1, h2, h3, h4, h5, fun j hj => ?_, fun j hj => ?_⟩
  · obtain ⟨k, hk, e⟩ := h4 j hj
    obtain ⟨σ, hσ⟩ := h6 j hj
    exact ⟨σ, hσ.agr (hE.sub (by omega) (by omega))⟩
  · obtain ⟨k, hk, e⟩ := h4 j (by omega)
    obtain ⟨σ, e1, hσ⟩ := h7 j hj
    exact ⟨σ, e1, hσ.agr (hE.sub (by omega) (by omega))⟩
theorem isTx.agr {G : Gc} {E E' : Wd} {o : Nat} {tx : List Int} (h : isTx G E o tx) (hE : Agr E E' o (o + 2)) : isTx G E' o tx := by
  obtain ⟨ch, ⟨h1, h2⟩, h3⟩ := h
  exact ⟨ch, ⟨(hE _ (by omega) (by omega)).trans h1, (hE _ (by omega) (by omega)).trans h2⟩, h3⟩
theorem rRd.agr {G : Gc} {E E' : Wd} {o : Nat} {sz pos rea nxt : Int} {b l r : Nat → Int} (h : rRd G E o sz pos rea nxt b l r) (hE : Agr E E' o (o + 4)) : rRd G E' o sz pos rea nxt b l r :=
  ⟨(hE _ (by omega) (by omega)).trans h.1, (hE _ (by omega) (by omega)).trans h.2.1, (hE _ (by omega) (by omega)).trans h.2.2.1, (hE _ (by omega) (by omega)).trans h.2.2.2⟩
/-- what a trial leaves as it was -/
def OutT (E E' : Wd) : Prop := ∀ j : Nat, (j < 17 ∨ 33 ≤ j) → (j < 115 ∨ 118 ≤ j) → E' j = E j
theorem isX.trial {G : Gc} {E E' : Wd} {Ψ : Fs} (h : isX G E Ψ) (hE : OutT E E') (h1 : ∃ τ, isS G E' 17 τ) (h2 : ∃ k lf dy, rOl G E' 115 k lf dy) : isX G E' Ψ := by
  obtain ⟨x0, x1, -, x2, -, x3, ⟨b1, b2, b3, b4, b5, b6, b7, x4⟩⟩ := h
  exact ⟨(hE _ (by omega) (by omega)).trans x0, x1.agr (fun j g1 g2 => hE j (by omega) (by omega)), h1, x2.agr (fun j g1 g2 => hE j (by omega) (by omega)), h2, x3.agr (fun j g1 g2 => hE j (by omega) (by omega)), ⟨b1, b2, b3, b4, b5, b6, b7, x4.agr (fun j g1 g2 => hE j (by omega) (by omega))⟩⟩
def vIfr (Ψ : Fs) (k w : Int) : Int :=
  if ¬ (0 ≤ w ∧ w ≤ 7) then -1 else if eTk Ψ k = 0 then (if w = 0 then (tips Ψ.1 k.toNat : Int) else if w ≤ 4 then (ticks Ψ.1 k.toNat).1 (6 + w.toNat) - Ψ.1.1 (6 + w.toNat) else if w = 5 then (ticks Ψ.1 k.toNat).1 1 else if w = 6 then (ticks Ψ.1 k.toNat).1 2 else plG (ticks Ψ.1 k.toNat).2.2.1 ((ticks Ψ.1 k.toNat).1 5) ((ticks Ψ.1 k.toNat).1 16)) else eTk Ψ k
set_option maxRecDepth 100000 in
set_option maxHeartbeats 4000000 in
theorem c_ifRun (lc : Launch) (G : Gc) (E : Wd) (nh : Nat) {Ψ : Fs} {k w : Int} (h : isX G E Ψ) (hk : okX Ψ) (hk0 : -2147483648 ≤ k ∧ k < 2147483648) (hw : -2147483648 ≤ w ∧ w < 2147483648) : CI lc G 5 yX11_ifRun cX11_ifRun 5 .int [.ref (gb G + 0), .int (iI k), .int (iI w)] E nh 0 0 (fun r E' => r = vIfr Ψ k w ∧ isX G E' Ψ ∧ Out E E' 0 124) := by
  refine CI.mk (by decide +kernel) rfl (Nat.le_of_ble_eq_true rfl) ?_
  intro X hG hL cx hR hI
  subst hG; subst hL
  show V X E (nh, 0, 0) 0 [some (.ref (gb (fG X) + 0)), some (.int (iI k)), some (.int (iI w)), none, none] []
  have hX := h
  obtain ⟨x0, x1, ⟨τ, x17⟩, x33, x115, x118, x120⟩ := id h
  have hed := eTk_bd (Ψ := Ψ) (k := k)
  obtain ⟨fs17, hfs17⟩ := x17.obj
  refine v_iload_n (pc := 0) cx rfl ga2 dX11_ifRun_0 ?_
  refine v_iconst (pc := 1) cx dX11_ifRun_1 ?_
  refine v_bipush (pc := 2) cx (by decide) dX11_ifRun_2 ?_
  refine v_callSI (pc := 4) cx hR (c_isWithin _ _ _ _ (by omega)) mlX11_51 (by decide) rfl (Nat.le_of_ble_eq_true rfl) ⟨Nat.le_refl _, Nat.le_refl _⟩ dX11_ifRun_4 (fun r1 E1 hP => ?_)
  obtain ⟨w1, rfl⟩ := hP
  refine v_if_ne (pc := 7) cx 12 dX11_ifRun_7 rfl (by omega) (fun c7 => ?_) (fun c7 => ?_)
  · refine v_aload_n (pc := 12) cx rfl ga0 dX11_ifRun_12 ?_
    refine v_iload_n (pc := 13) cx rfl ga1 dX11_ifRun_13 ?_
    refine v_callVI (pc := 14) cx hR (c_errorOfTicks _ _ _ _ h hk hk0) mlX11_94 (by decide) (by assumption) rfl rfl rfl (Nat.le_of_ble_eq_true rfl) ⟨Nat.le_refl _, Nat.le_refl _⟩ dX11_ifRun_14 (fun r2 E2 hP => ?_)
    obtain ⟨rfl, rfl⟩ := hP
    refine v_istore_n (pc := 17) cx rfl (sa3 rfl) dX11_ifRun_17 ?_
    refine v_iload_n (pc := 18) cx rfl ga3 dX11_ifRun_18 ?_
    refine v_if_eq (pc := 19) cx 24 dX11_ifRun_19 rfl (by omega) (fun c19 => ?_) (fun c19 => ?_)
    · obtain ⟨e1, e2, e3⟩ := eTk_0 (by assumption)
      have he0 : eTk Ψ k = 0 := by assumption
      obtain ⟨kn, rfl⟩ := Int.eq_ofNat_of_zero_le (show 0 ≤ k by omega)
      refine v_aload_n (pc := 24) cx rfl ga0 dX11_ifRun_24 ?_
      refine v_getfield (pc := 25) cx flX11_16 (by assumption) gf1 dX11_ifRun_25 ?_
      refine v_aload_n (pc := 28) cx rfl ga0 dX11_ifRun_28 ?_
      refine v_getfield (pc := 29) cx flX11_10 (by assumption) gf0 dX11_ifRun_29 ?_
      refine v_callVV (pc := 32) cx hR (c_St_copyFrom _ _ _ _ x17 x1 (by omega)) mlX11_223 (by decide) (by assumption) rfl rfl rfl (Nat.le_of_ble_eq_true rfl) ⟨Nat.le_refl _, Nat.le_refl _⟩ dX11_ifRun_32 (fun E3 hP => ?_)
      obtain ⟨y17, hF⟩ := hP
      replace x0 := (hF _ (by omega)).trans x0
      obtain ⟨fs17, hfs17⟩ := y17.obj
      refine v_aload_n (pc := 35) cx rfl ga0 dX11_ifRun_35 ?_
      refine v_getfield (pc := 36) cx flX11_16 (by assumption) gf1 dX11_ifRun_36 ?_
      refine v_iload_n (pc := 39) cx rfl ga1 dX11_ifRun_39 ?_
      refine v_callVI (pc := 40) cx hR (c_St_passTicks _ _ _ _ y17 hk.1 (by omega) (by omega)) mlX11_98 (by decide) (by assumption) rfl rfl rfl (Nat.le_of_ble_eq_true rfl) ⟨Nat.le_refl _, Nat.le_refl _⟩ dX11_ifRun_40 (fun r4 E4 hP => ?_)
      obtain ⟨rfl, z17, hF2⟩ := hP
      replace x0 := (hF2 _ (by omega)).trans x0
      have hO : Out E2 E4 17 33 := fun j hj => (hF2 j (by omega)).trans (hF j (by omega))
      have hX4 : isX (fG X) E4 Ψ := hX.trial (fun j g1 g2 => hO j (by omega)) ⟨_, z17⟩ (by obtain ⟨a1, a2, a3, a4⟩ := x115; exact ⟨a1, a2, a3, a4.out hO (by omega)⟩)
      have hO2 : Out E2 E4 0 124 := fun j hj => hO j (by omega)
      have hok := ok_ticks hk.1 kn (by omega)
      obtain ⟨fs17, hfs17⟩ := z17.obj
      have s1' := x1.out hO (by omega)
      obtain ⟨fs1, hfs1⟩ := s1'.obj
      have fin : 1 ≤ w → w ≤ 4 → V X E4 (nh, 0, 0) 125 [some (.ref (gb (fG X) + 0)), some (.int (iI (kn : Int))), some (.int (iI w)), some (.int (iI (eTk Ψ kn))), some (.int (iI (tips Ψ.1 kn : Int)))] [] := by
        intro g1 g2
        refine v_aload_n (pc := 125) cx rfl ga0 dX11_ifRun_125 ?_
        refine v_getfield (pc := 126) cx flX11_16 (by assumption) gf1 dX11_ifRun_126 ?_
        refine v_iload_n (pc := 129) cx rfl ga2 dX11_ifRun_129 ?_
        refine v_callVI (pc := 130) cx hR (c_St_accountOf _ _ _ _ z17 (by omega)) mlX11_184 (by decide) (by assumption) rfl rfl rfl (Nat.le_of_ble_eq_true rfl) ⟨Nat.le_refl _, Nat.le_refl _⟩ dX11_ifRun_130 (fun r5 E5 hP => ?_)
        obtain ⟨rfl, rfl⟩ := hP
        refine v_aload_n (pc := 133) cx rfl ga0 dX11_ifRun_133 ?_
        refine v_getfield (pc := 134) cx flX11_10 (by assumption) gf0 dX11_ifRun_134 ?_
        refine v_iload_n (pc := 137) cx rfl ga2 dX11_ifRun_137 ?_
        refine v_callVI (pc := 138) cx hR (c_St_accountOf _ _ _ _ s1' (by omega)) mlX11_184 (by decide) (by assumption) rfl rfl rfl (Nat.le_of_ble_eq_true rfl) ⟨Nat.le_refl _, Nat.le_refl _⟩ dX11_ifRun_138 (fun r6 E6 hP => ?_)
        obtain ⟨rfl, rfl⟩ := hP
        refine v_isub (pc := 141) cx dX11_ifRun_141 ?_
        refine v_ireturn (pc := 142) cx hI rfl ?_ dX11_ifRun_142
        refine ⟨?_, hX4, hO2⟩
        unfold vIfr
        rw [if_neg (by omega), if_pos he0, if_neg (by omega), if_pos g2, Int.toNat_natCast]
      refine v_istore (pc := 43) cx (sa4 rfl) dX11_ifRun_43 ?_
      refine v_iload_n (pc := 45) cx rfl ga2 dX11_ifRun_45 ?_
      rcases (show w = 0 ∨ w = 1 ∨ w = 2 ∨ w = 3 ∨ w = 4 ∨ w = 5 ∨ w = 6 ∨ w = 7 by omega) with rfl | rfl | rfl | rfl | rfl | rfl | rfl | rfl
      · refine v_tableIn (pc := 46) cx 92 dX11_ifRun_46 (by omega) rfl rfl ?_
        refine v_iload (pc := 92) cx ga4 dX11_ifRun_92 ?_
        refine v_ireturn (pc := 94) cx hI rfl ?_ dX11_ifRun_94
        refine ⟨?_, hX4, hO2⟩
        unfold vIfr
        rw [if_neg (by omega), if_pos he0, if_pos rfl, Int.toNat_natCast]
      · refine v_tableIn (pc := 46) cx 125 dX11_ifRun_46 (by omega) rfl rfl ?_
        exact fin (by omega) (by omega)
      · refine v_tableIn (pc := 46) cx 125 dX11_ifRun_46 (by omega) rfl rfl ?_
        exact fin (by omega) (by omega)
      · refine v_tableIn (pc := 46) cx 125 dX11_ifRun_46 (by omega) rfl rfl ?_
        exact fin (by omega) (by omega)
      · refine v_tableIn (pc := 46) cx 125 dX11_ifRun_46 (by omega) rfl rfl ?_
        exact fin (by omega) (by omega)
      · obtain ⟨st, n, b, l, r, fc, fd, B, cr, cn, ng, gf, gs, nm, t, p, v, tk, fell, ⟨s0, s1, s2, s3, s4, s5, s6, s7⟩, q1, q2, q3, q4, q5, q6, q7, ⟨q8, q8n⟩, ⟨q9, q9n⟩, q10, q11⟩ := id z17
        refine v_tableIn (pc := 46) cx 95 dX11_ifRun_46 (by omega) rfl rfl ?_
        refine v_aload_n (pc := 95) cx rfl ga0 dX11_ifRun_95 ?_
        refine v_getfield (pc := 96) cx flX11_16 (by assumption) gf1 dX11_ifRun_96 ?_
        refine v_getfield (pc := 99) cx flX11_152 (by assumption) gf2 dX11_ifRun_99 ?_
        refine v_getfield (pc := 102) cx flX11_156 (by assumption) gf0 dX11_ifRun_102 ?_
        refine v_ireturn (pc := 105) cx hI rfl ?_ dX11_ifRun_105
        refine ⟨?_, hX4, hO2⟩
        unfold vIfr
        rw [if_neg (by omega), if_pos he0, if_neg (by omega), if_neg (by omega), if_pos rfl, Int.toNat_natCast]
        exact q4
      · obtain ⟨st, n, b, l, r, fc, fd, B, cr, cn, ng, gf, gs, nm, t, p, v, tk, fell, ⟨s0, s1, s2, s3, s4, s5, s6, s7⟩, q1, q2, q3, q4, q5, q6, q7, ⟨q8, q8n⟩, ⟨q9, q9n⟩, q10, q11⟩ := id z17
        refine v_tableIn (pc := 46) cx 106 dX11_ifRun_46 (by omega) rfl rfl ?_
        refine v_aload_n (pc := 106) cx rfl ga0 dX11_ifRun_106 ?_
        refine v_getfield (pc := 107) cx flX11_16 (by assumption) gf1 dX11_ifRun_107 ?_
        refine v_getfield (pc := 110) cx flX11_161 (by assumption) gf3 dX11_ifRun_110 ?_
        refine v_getfield (pc := 113) cx flX11_165 (by assumption) gf0 dX11_ifRun_113 ?_
        refine v_ireturn (pc := 116) cx hI rfl ?_ dX11_ifRun_116
        refine ⟨?_, hX4, hO2⟩
        unfold vIfr
        rw [if_neg (by omega), if_pos he0, if_neg (by omega), if_neg (by omega), if_neg (by omega), if_pos rfl, Int.toNat_natCast]
        exact q5.1
      · obtain ⟨st, n, b, l, r, fc, fd, B, cr, cn, ng, gf, gs, nm, t, p, v, tk, fell, ⟨s0, s1, s2, s3, s4, s5, s6, s7⟩, q1, q2, q3, q4, q5, q6, q7, ⟨q8, q8n⟩, ⟨q9, q9n⟩, q10, q11⟩ := id z17
        have a5 : st 5 = (ticks Ψ.1 kn).1 16 := q1 5 (by omega)
        have hge := hok.2.2.2.1
        rw [← q8] at hge
        have hse6 := hok.2.1.2.2.2.2.2.1
        refine v_tableIn (pc := 46) cx 117 dX11_ifRun_46 (by omega) rfl rfl ?_
        refine v_aload_n (pc := 117) cx rfl ga0 dX11_ifRun_117 ?_
        refine v_getfield (pc := 118) cx flX11_16 (by assumption) gf1 dX11_ifRun_118 ?_
        refine v_callVI (pc := 121) cx hR (c_St_drumPlace _ _ _ _ ⟨s0, s1, s2, s3, s4, s5, s6, s7⟩ q8n (fun j hj => (okGe_at hge j hj).2) (by omega)) mlX11_174 (by decide) (by assumption) rfl rfl rfl (Nat.le_of_ble_eq_true rfl) ⟨Nat.le_refl _, Nat.le_refl _⟩ dX11_ifRun_121 (fun v5 E5 hP => ?_)
        obtain ⟨rfl, rfl⟩ := hP
        refine v_ireturn (pc := 124) cx hI rfl ?_ dX11_ifRun_124
        refine ⟨?_, hX4, hO2⟩
        unfold vIfr
        rw [if_neg (by omega), if_pos he0, if_neg (by omega), if_neg (by omega), if_neg (by omega), if_neg (by omega), Int.toNat_natCast, ← q8, plG_lst, a5, q7]
    · refine v_iload_n (pc := 22) cx rfl ga3 dX11_ifRun_22 ?_
      refine v_ireturn (pc := 23) cx hI rfl ?_ dX11_ifRun_23
      refine ⟨?_, hX, fun _ _ => rfl⟩
      unfold vIfr
      rw [if_neg (by omega), if_neg (by assumption)]
  · refine v_iconst (pc := 10) cx dX11_ifRun_10 ?_
    refine v_ireturn (pc := 11) cx hI rfl ?_ dX11_ifRun_11
    refine ⟨?_, hX, fun _ _ => rfl⟩
    unfold vIfr
    rw [if_pos (by omega)]
/-! the bucket alone, and the whole -/
theorem rainL_filter {L : List (Int × Int × Int)} {t0 t : Int} (h : t0 ≤ t) : rainL (L.filter (fun x => decide (t0 < x.1 + x.2.1))) t = rainL L t := by
  induction L with
  | nil => rfl
  | cons a L ih =>
    have e : rainL (a :: L) t = (if a.1 ≤ t ∧ t < a.1 + a.2.1 then a.2.2 else 0) + rainL L t := by simp [rainL]
    by_cases hc : t0 < a.1 + a.2.1
    · rw [List.filter_cons_of_pos (by simpa using hc)]
      have e2 : rainL (a :: L.filter (fun x => decide (t0 < x.1 + x.2.1))) t = (if a.1 ≤ t ∧ t < a.1 + a.2.1 then a.2.2 else 0) + rainL (L.filter (fun x => decide (t0 < x.1 + x.2.1))) t := by simp [rainL]
      rw [e2, e, ih]
    · rw [List.filter_cons_of_neg (by simpa using hc), e, ih, if_neg (by omega)]
      omega
def capσ (σ : Sg) (c : Int) : Sg := (upI σ.1 11 c, σ.2)
def rnF (σ : Sg) (i : Nat) : Int := rainL σ.2.1 (σ.1 0 + i)
theorem cap_sim (σ : Sg) (c bd : Int) : ∀ i : Nat,
    (ticks (capσ σ c) i).1 0 = σ.1 0 + i ∧ (ticks (capσ σ c) i).1 11 = c ∧ (∀ j, 12 ≤ j → (ticks (capσ σ c) i).1 j = σ.1 j) ∧ (∀ t, σ.1 0 + i ≤ t → rainL (ticks (capσ σ c) i).2.1 t = rainL σ.2.1 t) ∧
    (ticks (capσ σ c) i).1 1 = laF (rnF σ) (σ.1 13) (σ.1 14) (σ.1 1) i ∧
    ((ticks (capσ σ c) i).1 2 = (bN (laL (rnF σ) (σ.1 13) (σ.1 14) (σ.1 1)) (fun i => if rnF σ i = 0 then 1 else 0) c (σ.1 12) (σ.1 15) (σ.1 2, σ.1 3, σ.1 7, σ.1 8, σ.1 9, bd) i).1 ∧
     (ticks (capσ σ c) i).1 3 = (bN (laL (rnF σ) (σ.1 13) (σ.1 14) (σ.1 1)) (fun i => if rnF σ i = 0 then 1 else 0) c (σ.1 12) (σ.1 15) (σ.1 2, σ.1 3, σ.1 7, σ.1 8, σ.1 9, bd) i).2.1 ∧
     (ticks (capσ σ c) i).1 7 = (bN (laL (rnF σ) (σ.1 13) (σ.1 14) (σ.1 1)) (fun i => if rnF σ i = 0 then 1 else 0) c (σ.1 12) (σ.1 15) (σ.1 2, σ.1 3, σ.1 7, σ.1 8, σ.1 9, bd) i).2.2.1 ∧
     (ticks (capσ σ c) i).1 8 = (bN (laL (rnF σ) (σ.1 13) (σ.1 14) (σ.1 1)) (fun i => if rnF σ i = 0 then 1 else 0) c (σ.1 12) (σ.1 15) (σ.1 2, σ.1 3, σ.1 7, σ.1 8, σ.1 9, bd) i).2.2.2.1 ∧
     (ticks (capσ σ c) i).1 9 = (bN (laL (rnF σ) (σ.1 13) (σ.1 14) (σ.1 1)) (fun i => if rnF σ i = 0 then 1 else 0) c (σ.1 12) (σ.1 15) (σ.1 2, σ.1 3, σ.1 7, σ.1 8, σ.1 9, bd) i).2.2.2.2.1) := by
  intro i
  induction i with
  | zero => exact ⟨by simp [ticks, capσ, upI], rfl, fun j hj => upI_n (by omega), fun t ht => rfl, rfl, rfl, rfl, rfl, rfl, rfl⟩
  | succ i ih =>
    obtain ⟨i0, i11, ise, ish, i1, i2, i3, i7, i8, i9⟩ := ih
    have hrain : tkRain (ticks (capσ σ c) i) = rnF σ i := by
      unfold tkRain rnF
      rw [i0, ish _ (Int.le_refl _)]
    have e13 := ise 13 (by omega)
    have e14 := ise 14 (by omega)
    have e12 := ise 12 (by omega)
    have e15 := ise 15 (by omega)
    have hft : rnF σ i - fTaken (rnF σ i) ((ticks (capσ σ c) i).1 13) ((ticks (capσ σ c) i).1 1) = laL (rnF σ) (σ.1 13) (σ.1 14) (σ.1 1) i := by
      rw [e13, i1]
      rfl
    have hB : tkB (ticks (capσ σ c) i).1 (rnF σ i) = bS (laL (rnF σ) (σ.1 13) (σ.1 14) (σ.1 1) i) (if rnF σ i = 0 then 1 else 0) c (σ.1 12) (σ.1 15) ((ticks (capσ σ c) i).1 2, (ticks (capσ σ c) i).1 3, (ticks (capσ σ c) i).1 7, (ticks (capσ σ c) i).1 8, (ticks (capσ σ c) i).1 9, 0) := by
      unfold tkB
      rw [hft, i11, e12, e15]
    simp only [bN]
    generalize hbn : bN (laL (rnF σ) (σ.1 13) (σ.1 14) (σ.1 1)) (fun i => if rnF σ i = 0 then 1 else 0) c (σ.1 12) (σ.1 15) (σ.1 2, σ.1 3, σ.1 7, σ.1 8, σ.1 9, bd) i = b at *
    obtain ⟨b1, b2, b3, b4, b5, b6⟩ := b
    simp only at i2 i3 i7 i8 i9
    rw [i2, i3, i7, i8, i9] at hB
    have hD := bS_dr (rain := laL (rnF σ) (σ.1 13) (σ.1 14) (σ.1 1) i) (d := if rnF σ i = 0 then 1 else 0) (cap := c) (tt := σ.1 12) (dg := σ.1 15) (c := b1) (tl := b2) (ti := b3) (ov := b4) (lo := b5) (dr := b6)
    rw [hD, ← hB]
    refine ⟨?_, ?_, fun j hj => ?_, fun t ht => ?_, ?_, ?_, ?_, ?_, ?_, ?_⟩
    · show (ticks (capσ σ c) i).1 0 + 1 = _
      rw [i0]; omega
    · exact i11
    · obtain ⟨q, rfl⟩ : ∃ q, j = q + 11 := ⟨j - 11, by omega⟩
      exact ise (q + 11) hj
    · show rainL ((ticks (capσ σ c) i).2.1.filter (fun x => decide ((ticks (capσ σ c) i).1 0 + 1 < x.1 + x.2.1))) t = _
      rw [rainL_filter (by rw [i0]; omega)]
      exact ish t (by omega)
    · show (ticks (capσ σ c) i).1 1 + fTaken (tkRain (ticks (capσ σ c) i)) ((ticks (capσ σ c) i).1 13) ((ticks (capσ σ c) i).1 1) - fGone (tkRain (ticks (capσ σ c) i)) ((ticks (capσ σ c) i).1 13) ((ticks (capσ σ c) i).1 1) ((ticks (capσ σ c) i).1 14) = _
      rw [hrain, e13, e14, i1]
      rfl
    · show (tkB (ticks (capσ σ c) i).1 (tkRain (ticks (capσ σ c) i))).1 = _
      rw [hrain]
    · show (tkB (ticks (capσ σ c) i).1 (tkRain (ticks (capσ σ c) i))).2.1 = _
      rw [hrain]
    · show (tkB (ticks (capσ σ c) i).1 (tkRain (ticks (capσ σ c) i))).2.2.1 = _
      rw [hrain]
    · show (tkB (ticks (capσ σ c) i).1 (tkRain (ticks (capσ σ c) i))).2.2.2.1 = _
      rw [hrain]
    · show (tkB (ticks (capσ σ c) i).1 (tkRain (ticks (capσ σ c) i))).2.2.2.2.1 = _
      rw [hrain]
theorem bN_ext {lf dy lf' dy' : Nat → Int} {cap tt dg : Int} {B : BT} : ∀ k, (∀ i, i < k → lf i = lf' i ∧ dy i = dy' i) → bN lf dy cap tt dg B k = bN lf' dy' cap tt dg B k := by
  intro k
  induction k with
  | zero => intro _; rfl
  | succ k ih =>
    intro h
    simp only [bN]
    rw [ih (fun i hi => h i (by omega)), (h k (by omega)).1, (h k (by omega)).2]
def gnV (σ : Sg) (k : Nat) (c : Int) : Int := (ticks (capσ σ c) k).1 9 - σ.1 9 + (ticks (capσ σ c) k).1 8 - σ.1 8
def srch (σ : Sg) (k : Nat) (most : Int) : Nat → Int → Int
  | 0, _ => -4
  | n + 1, c => if gnV σ k c ≤ most then c else srch σ k most n (c + 1)
def vCap (Ψ : Fs) (k most : Int) : Int := if ¬ (0 ≤ most ∧ most ≤ 100000) then -1 else if eTk Ψ k = 0 then srch Ψ.1 k.toNat most 481 20 else eTk Ψ k
set_option maxRecDepth 100000 in
set_option maxHeartbeats 4000000 in
theorem c_capacityFor (lc : Launch) (G : Gc) (E : Wd) (nh : Nat) {Ψ : Fs} {k mo : Int} (h : isX G E Ψ) (hk : okX Ψ) (hk0 : -2147483648 ≤ k ∧ k < 2147483648) (hmo : -2147483648 ≤ mo ∧ mo < 2147483648) : CI lc G 5 yX11_capacityFor cX11_capacityFor 5 .int [.ref (gb G + 0), .int (iI k), .int (iI mo)] E nh 0 0 (fun r E' => r = vCap Ψ k mo ∧ isX G E' Ψ ∧ Out E E' 0 124) := by
  refine CI.mk (by decide +kernel) rfl (Nat.le_of_ble_eq_true rfl) ?_
  intro X hG hL cx hR hI
  subst hG; subst hL
  show V X E (nh, 0, 0) 0 [some (.ref (gb (fG X) + 0)), some (.int (iI k)), some (.int (iI mo)), none, none] []
  have hX := h
  obtain ⟨x0, x1, ⟨τ, x17⟩, x33, ⟨ko, lo0, do0, x115⟩, x118, x120⟩ := id h
  have hed := eTk_bd (Ψ := Ψ) (k := k)
  obtain ⟨fs17, hfs17⟩ := x17.obj
  refine v_iload_n (pc := 0) cx rfl ga2 dX11_capacityFor_0 ?_
  refine v_iconst (pc := 1) cx dX11_capacityFor_1 ?_
  refine v_ldc (pc := 2) cx kcX11_226 dX11_capacityFor_2 ?_
  refine v_callSI (pc := 4) cx hR (c_isWithin _ _ _ _ (by omega)) mlX11_51 (by decide) rfl (Nat.le_of_ble_eq_true rfl) ⟨Nat.le_refl _, Nat.le_refl _⟩ dX11_capacityFor_4 (fun r1 E1 hP => ?_)
  obtain ⟨w1, rfl⟩ := hP
  refine v_if_ne (pc := 7) cx 12 dX11_capacityFor_7 rfl (by omega) (fun c7 => ?_) (fun c7 => ?_)
  · refine v_aload_n (pc := 12) cx rfl ga0 dX11_capacityFor_12 ?_
    refine v_iload_n (pc := 13) cx rfl ga1 dX11_capacityFor_13 ?_
    refine v_callVI (pc := 14) cx hR (c_errorOfTicks _ _ _ _ h hk hk0) mlX11_94 (by decide) (by assumption) rfl rfl rfl (Nat.le_of_ble_eq_true rfl) ⟨Nat.le_refl _, Nat.le_refl _⟩ dX11_capacityFor_14 (fun r2 E2 hP => ?_)
    obtain ⟨rfl, rfl⟩ := hP
    refine v_istore_n (pc := 17) cx rfl (sa3 rfl) dX11_capacityFor_17 ?_
    refine v_iload_n (pc := 18) cx rfl ga3 dX11_capacityFor_18 ?_
    refine v_if_eq (pc := 19) cx 24 dX11_capacityFor_19 rfl (by omega) (fun c19 => ?_) (fun c19 => ?_)
    · obtain ⟨e1, e2, e3⟩ := eTk_0 (by assumption)
      have he0 : eTk Ψ k = 0 := by assumption
      obtain ⟨kn, rfl⟩ := Int.eq_ofNat_of_zero_le (show 0 ≤ k by omega)
      refine v_aload_n (pc := 24) cx rfl ga0 dX11_capacityFor_24 ?_
      refine v_getfield (pc := 25) cx flX11_16 (by assumption) gf1 dX11_capacityFor_25 ?_
      refine v_aload_n (pc := 28) cx rfl ga0 dX11_capacityFor_28 ?_
      refine v_getfield (pc := 29) cx flX11_10 (by assumption) gf0 dX11_capacityFor_29 ?_
      refine v_callVV (pc := 32) cx hR (c_St_copyFrom _ _ _ _ x17 x1 (by omega)) mlX11_223 (by decide) (by assumption) rfl rfl rfl (Nat.le_of_ble_eq_true rfl) ⟨Nat.le_refl _, Nat.le_refl _⟩ dX11_capacityFor_32 (fun E3 hP => ?_)
      obtain ⟨y17, hF⟩ := hP
      replace x0 := (hF _ (by omega)).trans x0
      have x115' := x115.out hF (by omega)
      have x1' := x1.out hF (by omega)
      obtain ⟨⟨hsc, hse, hsh, hge, hmk⟩, -, -⟩ := id hk
      obtain ⟨st, n, b, l, r, fc, fd, B, cr, cn, ng, gf, gs, nm, t, p, v, tk, fell, ⟨s0, s1, s2, s3, s4, s5, s6, s7⟩, q1, q2, q3, q4, q5, q6, q7, ⟨q8, q8n⟩, ⟨q9, q9n⟩, q10, q11⟩ := id y17
      obtain ⟨q51, q52, q53, q54, q55, q56⟩ := q5
      have a1 : st 1 = Ψ.1.1 12 := q1 1 (by omega)
      have a2 : st 2 = Ψ.1.1 13 := q1 2 (by omega)
      have a3 : st 3 = Ψ.1.1 14 := q1 3 (by omega)
      have a4 : st 4 = Ψ.1.1 15 := q1 4 (by omega)
      have hx115 := x115'.1
      refine v_aload_n (pc := 35) cx rfl ga0 dX11_capacityFor_35 ?_
      refine v_getfield (pc := 36) cx flX11_29 (by assumption) gf3 dX11_capacityFor_36 ?_
      refine v_aload_n (pc := 39) cx rfl ga0 dX11_capacityFor_39 ?_
      refine v_getfield (pc := 40) cx flX11_16 (by assumption) gf1 dX11_capacityFor_40 ?_
      refine v_iload_n (pc := 43) cx rfl ga1 dX11_capacityFor_43 ?_
      refine v_callVV (pc := 44) cx hR (c_Ol_lookAhead _ _ _ _ x115' ⟨s0, s1, s2, s3, s4, s5, s6, s7⟩ (by omega) (by omega) q3 (by rw [q2]; exact hsh) ⟨by rw [q10]; exact hsc.1, by rw [q4]; exact hsc.2.1, by rw [a2]; exact hse.2.2.1, by rw [a3]; exact hse.2.2.2.1⟩) mlX11_227 (by decide) (by assumption) rfl rfl rfl (Nat.le_of_ble_eq_true rfl) ⟨Nat.le_refl _, Nat.le_refl _⟩ dX11_capacityFor_44 (fun E4 hP => ?_)
      obtain ⟨⟨lf, dy, fc', fd', o115, t17, hlf⟩, hF2⟩ := hP
      have hOT : OutT E2 E4 := fun j g1 g2 => (hF2 j (by omega) (by omega)).trans (hF j (by omega))
      have hlf2 : ∀ i, i < kn → lf i = laL (rnF Ψ.1) (Ψ.1.1 13) (Ψ.1.1 14) (Ψ.1.1 1) i ∧ dy i = (if rnF Ψ.1 i = 0 then 1 else 0) := by
        intro i hi
        have := hlf i hi
        rw [q2, q10, a2, a3, q4] at this
        exact this
      have hrn := fun i : Nat => rainL_bd hsh.2 (Ψ.1.1 0 + (i : Int))
      have hbdF := laF_bd (rn := rnF Ψ.1) (cap := Ψ.1.1 13) (dg := Ψ.1.1 14) (c0 := Ψ.1.1 1) hsc.2.1 hse.2.2.1 hse.2.2.2.1.1 (fun i => (hrn i).1)
      have hlfb : ∀ i, i < kn → (0 ≤ lf i ∧ lf i ≤ 2400) ∧ (dy i = 0 ∨ dy i = 1) := by
        intro i hi
        obtain ⟨g1, g2⟩ := hlf2 i hi
        have g3 := hrn i
        have g4 := fT_bd (cap := Ψ.1.1 13) (c := laF (rnF Ψ.1) (Ψ.1.1 13) (Ψ.1.1 14) (Ψ.1.1 1) i) (show 0 ≤ rnF Ψ.1 i from g3.1)
        have g5 : rnF Ψ.1 i ≤ 200 * (Ψ.1.2.1.length : Int) := g3.2
        have g6 := hsh.1
        rw [g1, g2]
        unfold laL
        refine ⟨by omega, ?_⟩
        split
        · exact Or.inr rfl
        · exact Or.inl rfl
      have loop : ∀ (d c : Nat) (E' : Wd) (B' : BT), 20 ≤ c → c ≤ 501 → 501 - c < d → rOl (fG X) E' 115 (kn : Int) lf dy → rSt (fG X) E' 17 st n b l r fc' fd' B' cr cn ng gf gs nm t p v tk fell → OutT E2 E' → srch Ψ.1 kn mo 481 20 = srch Ψ.1 kn mo (501 - c) (c : Int) → V X E' (nh, 0, 0) 54 [some (.ref (gb (fG X) + 0)), some (.int (iI (kn : Int))), some (.int (iI mo)), some (.int (iI (eTk Ψ kn))), some (.int (iI (c : Int)))] [] := by
        intro d
        induction d with
        | zero => intro c E' B' h1 h2 h3; omega
        | succ d ih =>
          intro c E' B' hc1 hc2 hd o115 t17 hOT hsr
          obtain ⟨t0, t1, t2, t3, t4, t5, t6, t7⟩ := id t17
          have hres : isX (fG X) E' Ψ := hX.trial hOT ⟨(fun i => if i = 1 then fc' else if i = 2 then B'.1 else if i = 3 then B'.2.1 else if i = 4 then cr else if i = 5 then cn else if i = 6 then fell else if i = 7 then B'.2.2.1 else if i = 8 then B'.2.2.2.1 else if i = 9 then B'.2.2.2.2.1 else if i = 10 then fd' + B'.2.2.2.2.2 else if i = 0 then tk else st (i - 11), lst b l r n, lst2 gf gs ng, lst t p v nm), st, n, b, l, r, fc', fd', B', cr, cn, ng, gf, gs, nm, t, p, v, tk, fell, t17, fun j hj => by simp only; rw [if_neg (by omega), if_neg (by omega), if_neg (by omega), if_neg (by omega), if_neg (by omega), if_neg (by omega), if_neg (by omega), if_neg (by omega), if_neg (by omega), if_neg (by omega), if_neg (by omega)]; congr 1; omega, rfl, q3, rfl, ⟨rfl, rfl, rfl, rfl, rfl, rfl⟩, rfl, rfl, ⟨rfl, q8n⟩, ⟨rfl, q9n⟩, rfl, rfl⟩ ⟨_, _, _, o115⟩
          have hOU : Out E2 E' 0 124 := fun j hj => hOT j (by omega) (by omega)
          have y0 := (hOT 0 (by omega) (by omega)).trans hX.1
          have y1 : isS (fG X) E' 1 Ψ.1 := x1.agr (fun j g1 g2 => hOT j (by omega) (by omega))
          obtain ⟨st', n', b', l', r', fc2, fd2, Bn, cr', cn', ng', gf', gs', nm', t', p', v', tk', fell', ⟨u0, u1, u2, u3, u4, u5, u6, u7⟩, p1, p2, p3, p4, ⟨p51, p52, p53, p54, p55, p56⟩, -⟩ := id y1
          have o0 := o115.1
          refine v_iload (pc := 54) cx ga4 dX11_capacityFor_54 ?_
          refine v_getstatic (pc := 56) cx 1 (by decide) gsX11_108 dX11_capacityFor_56 ?_
          refine v_iconst (pc := 59) cx dX11_capacityFor_59 ?_
          refine v_tload (pc := 60) cx (0) (by decide) (by omega) dX11_capacityFor_60 ?_
          rw [show tbV 1 0 = 500 from rfl]
          refine v_icmp_gt (pc := 61) cx 107 dX11_capacityFor_61 rfl (by omega) (fun c61 => ?_) (fun c61 => ?_)
          · refine v_bipush (pc := 107) cx (by decide) dX11_capacityFor_107 ?_
            refine v_ireturn (pc := 109) cx hI rfl ?_ dX11_capacityFor_109
            refine ⟨?_, hres, hOU⟩
            unfold vCap
            rw [if_neg (by omega), if_pos he0, Int.toNat_natCast, hsr, show 501 - c = 0 by omega]
            rfl
          · refine v_aload_n (pc := 64) cx rfl ga0 dX11_capacityFor_64 ?_
            refine v_getfield (pc := 65) cx flX11_16 (by assumption) gf1 dX11_capacityFor_65 ?_
            refine v_getfield (pc := 68) cx flX11_161 (by assumption) gf3 dX11_capacityFor_68 ?_
            refine v_aload_n (pc := 71) cx rfl ga0 dX11_capacityFor_71 ?_
            refine v_getfield (pc := 72) cx flX11_10 (by assumption) gf0 dX11_capacityFor_72 ?_
            refine v_getfield (pc := 75) cx flX11_161 (by assumption) gf3 dX11_capacityFor_75 ?_
            refine v_callVV (pc := 78) cx hR (c_Bk_copyFrom _ _ _ _ t4 u4 (by omega)) mlX11_231 (by decide) (by assumption) rfl rfl rfl (Nat.le_of_ble_eq_true rfl) ⟨Nat.le_refl _, Nat.le_refl _⟩ dX11_capacityFor_78 (fun E5 hP => ?_)
            obtain ⟨g4, hF5⟩ := hP
            have y05 := (hF5 _ (by omega)).trans y0
            have o5 := o115.out hF5 (by omega)
            have o05 := o5.1
            have t5' : rSt (fG X) E5 17 st n b l r fc' fd' Bn cr cn ng gf gs nm t p v tk fell := ⟨(hF5 _ (by omega)).trans t0, (hF5 _ (by omega)).trans t1, t2.out hF5 (by omega), (hF5 _ (by omega)).trans t3, g4, (hF5 _ (by omega)).trans t5, t6.out hF5 (by omega), t7.out hF5 (by omega)⟩
            refine v_aload_n (pc := 81) cx rfl ga0 dX11_capacityFor_81 ?_
            refine v_getfield (pc := 82) cx flX11_29 (by assumption) gf3 dX11_capacityFor_82 ?_
            refine v_iload_n (pc := 85) cx rfl ga2 dX11_capacityFor_85 ?_
            refine v_iload (pc := 86) cx ga4 dX11_capacityFor_86 ?_
            refine v_aload_n (pc := 88) cx rfl ga0 dX11_capacityFor_88 ?_
            refine v_getfield (pc := 89) cx flX11_16 (by assumption) gf1 dX11_capacityFor_89 ?_
            refine v_callVI (pc := 92) cx hR (c_Ol_losesAtMost _ _ _ _ o5 t5' (by omega) (by omega) hlfb (by omega) (by omega) ⟨by rw [a1]; exact hse.2.1, by rw [a4]; exact hse.2.2.2.2.1, by rw [p51, p52]; exact ⟨hsc.2.2.1, hsc.2.2.2.1⟩, by rw [p51, p54, p55]; have := hsc; unfold okSc at this; omega⟩) mlX11_234 (by decide) (by assumption) rfl rfl rfl (Nat.le_of_ble_eq_true rfl) ⟨Nat.le_refl _, Nat.le_refl _⟩ dX11_capacityFor_92 (fun r6 E6 hP => ?_)
            obtain ⟨hv, ⟨B6, g6⟩, hF6⟩ := hP
            have hsim := cap_sim Ψ.1 (c : Int) Bn.2.2.2.2.2 kn
            have hBn : Bn = (Ψ.1.1 2, Ψ.1.1 3, Ψ.1.1 7, Ψ.1.1 8, Ψ.1.1 9, Bn.2.2.2.2.2) := by rw [← p51, ← p52, ← p53, ← p54, ← p55]
            have hbe : bN lf dy (c : Int) (st 1) (st 4) Bn kn = bN (laL (rnF Ψ.1) (Ψ.1.1 13) (Ψ.1.1 14) (Ψ.1.1 1)) (fun i => if rnF Ψ.1 i = 0 then 1 else 0) (c : Int) (Ψ.1.1 12) (Ψ.1.1 15) (Ψ.1.1 2, Ψ.1.1 3, Ψ.1.1 7, Ψ.1.1 8, Ψ.1.1 9, Bn.2.2.2.2.2) kn := by
              rw [← hBn, a1, a4]
              exact bN_ext kn hlf2
            rw [hbe, ← hsim.2.2.2.2.2.2.2.2.1, ← hsim.2.2.2.2.2.2.2.2.2, p54, p55] at hv
            have hst : srch Ψ.1 kn mo (501 - c) (c : Int) = if gnV Ψ.1 kn (c : Int) ≤ mo then (c : Int) else srch Ψ.1 kn mo (501 - (c + 1)) ((c + 1 : Nat) : Int) := by
              rw [show 501 - c = (501 - (c + 1)) + 1 by omega]
              rfl
            have hOT6 : OutT E2 E6 := fun j g1 g2 => (hF6 j (by omega)).trans ((hF5 j (by omega)).trans (hOT j g1 g2))
            have t6' : rSt (fG X) E6 17 st n b l r fc' fd' B6 cr cn ng gf gs nm t p v tk fell := by
              obtain ⟨v0, v1, v2, v3, v4, v5, v6, v7⟩ := t5'
              exact ⟨(hF6 _ (by omega)).trans v0, (hF6 _ (by omega)).trans v1, v2.out hF6 (by omega), (hF6 _ (by omega)).trans v3, g6, (hF6 _ (by omega)).trans v5, v6.out hF6 (by omega), v7.out hF6 (by omega)⟩
            have o6 := o5.out hF6 (by omega)
            have hgn : gnV Ψ.1 kn (c : Int) = (ticks (capσ Ψ.1 (c : Int)) kn).1 9 - Ψ.1.1 9 + (ticks (capσ Ψ.1 (c : Int)) kn).1 8 - Ψ.1.1 8 := rfl
            refine v_if_eq (pc := 95) cx 101 dX11_capacityFor_95 rfl (by omega) (fun c95 => ?_) (fun c95 => ?_)
            · refine v_iinc (pc := 101) cx ga4 (sa4 rfl) dX11_capacityFor_101 ?_
              refine v_goto (pc := 104) cx 54 dX11_capacityFor_104 rfl ?_
              rw [hst, if_neg (by omega)] at hsr
              exact ih (c + 1) E6 B6 (by omega) (by omega) (by omega) o6 t6' hOT6 hsr
            · refine v_iload (pc := 98) cx ga4 dX11_capacityFor_98 ?_
              refine v_ireturn (pc := 100) cx hI rfl ?_ dX11_capacityFor_100
              rw [hst, if_pos (by omega)] at hsr
              have hres6 : isX (fG X) E6 Ψ := hX.trial hOT6 ⟨(fun i => if i = 1 then fc' else if i = 2 then B6.1 else if i = 3 then B6.2.1 else if i = 4 then cr else if i = 5 then cn else if i = 6 then fell else if i = 7 then B6.2.2.1 else if i = 8 then B6.2.2.2.1 else if i = 9 then B6.2.2.2.2.1 else if i = 10 then fd' + B6.2.2.2.2.2 else if i = 0 then tk else st (i - 11), lst b l r n, lst2 gf gs ng, lst t p v nm), st, n, b, l, r, fc', fd', B6, cr, cn, ng, gf, gs, nm, t, p, v, tk, fell, t6', fun j hj => by simp only; rw [if_neg (by omega), if_neg (by omega), if_neg (by omega), if_neg (by omega), if_neg (by omega), if_neg (by omega), if_neg (by omega), if_neg (by omega), if_neg (by omega), if_neg (by omega), if_neg (by omega)]; congr 1; omega, rfl, q3, rfl, ⟨rfl, rfl, rfl, rfl, rfl, rfl⟩, rfl, rfl, ⟨rfl, q8n⟩, ⟨rfl, q9n⟩, rfl, rfl⟩ ⟨_, _, _, o6⟩
              refine ⟨?_, hres6, fun j hj => hOT6 j (by omega) (by omega)⟩
              unfold vCap
              rw [if_neg (by omega), if_pos he0, Int.toNat_natCast, hsr]
      refine v_getstatic (pc := 47) cx 0 (by decide) gsX11_105 dX11_capacityFor_47 ?_
      refine v_iconst (pc := 50) cx dX11_capacityFor_50 ?_
      refine v_tload (pc := 51) cx (0) (by decide) (by omega) dX11_capacityFor_51 ?_
      refine v_istore (pc := 52) cx (sa4 rfl) dX11_capacityFor_52 ?_
      rw [show tbV 0 0 = ((20 : Nat) : Int) from rfl]
      exact loop 502 20 E4 B (by omega) (by omega) (by omega) o115 t17 hOT rfl
    · refine v_iload_n (pc := 22) cx rfl ga3 dX11_capacityFor_22 ?_
      refine v_ireturn (pc := 23) cx hI rfl ?_ dX11_capacityFor_23
      refine ⟨?_, hX, fun _ _ => rfl⟩
      unfold vCap
      rw [if_neg (by omega), if_neg (by assumption)]
  · refine v_iconst (pc := 10) cx dX11_capacityFor_10 ?_
    refine v_ireturn (pc := 11) cx hI rfl ?_ dX11_capacityFor_11
    refine ⟨?_, hX, fun _ _ => rfl⟩
    unfold vCap
    rw [if_pos (by omega)]
set_option maxRecDepth 100000 in
set_option maxHeartbeats 4000000 in
theorem c_untilStop (lc : Launch) (G : Gc) (E : Wd) (nh : Nat) {Ψ : Fs} (h : isX G E Ψ) (hk : okX Ψ) : CI lc G 5 yX11_untilStop cX11_untilStop 1 .int [.ref (gb G + 0)] E nh 0 0 (fun r E' => r = Ψ.1.1 4 ∧ E' = E) := by
  refine CI.mk (by decide +kernel) rfl (Nat.le_of_ble_eq_true rfl) ?_
  intro X hG hL cx hR hI
  subst hG; subst hL
  show V X E (nh, 0, 0) 0 [some (.ref (gb (fG X) + 0))] []
  obtain ⟨hxr, hS, hH⟩ := h.split
  have hx0 := hxr.1
  obtain ⟨st, n, b, l, r, fc, fd, B, cr, cn, ng, gf, gs, nm, t, p, v, tk, fell, ⟨s0, s1, s2, s3, s4, s5, s6, s7⟩, q1, q2, q3, q4, q5, q6, q7, ⟨q8, q8n⟩, ⟨q9, q9n⟩, q10, q11⟩ := id hS
  refine v_aload_n (pc := 0) cx rfl ga0 dX11_untilStop_0 ?_
  refine v_getfield (pc := 1) cx flX11_10 (by assumption) gf0 dX11_untilStop_1 ?_
  refine v_getfield (pc := 4) cx flX11_114 (by assumption) gf4 dX11_untilStop_4 ?_
  refine v_getfield (pc := 7) cx flX11_118 (by assumption) gf0 dX11_untilStop_7 ?_
  refine v_ireturn (pc := 10) cx hI rfl ?_ dX11_untilStop_10
  exact ⟨q6, rfl⟩
def gsr (te k : Int) : Nat → Int → Int
  | 0, _ => -4
  | n + 1, a => if te * (k * a / te) = k * a ∧ 8 ≤ k * a / te ∧ k * a / te ≤ 120 then 1000 * a + k * a / te else gsr te k n (a + 1)
def vGfo (Ψ : Fs) (k : Int) : Int := if ¬ (1 ≤ k ∧ k ≤ 100000) then -1 else gsr (Ψ.1.1 16) k 113 8
end
section
/-! what always holds is kept by every call -/
theorem okSc_hi {s : Nat → Int} {k : Nat} {x : Int} (h : okSc s) (hk : 11 ≤ k) : okSc (upI s k x) := by
  unfold okSc at *
  rw [upI_n (show (0 : Nat) ≠ k by omega), upI_n (show (1 : Nat) ≠ k by omega), upI_n (show (2 : Nat) ≠ k by omega), upI_n (show (3 : Nat) ≠ k by omega), upI_n (show (4 : Nat) ≠ k by omega), upI_n (show (5 : Nat) ≠ k by omega), upI_n (show (6 : Nat) ≠ k by omega), upI_n (show (7 : Nat) ≠ k by omega), upI_n (show (8 : Nat) ≠ k by omega), upI_n (show (9 : Nat) ≠ k by omega), upI_n (show (10 : Nat) ≠ k by omega)]
  exact h
theorem kX_add {Ψ : Fs} {b l r : Int} (h : okX Ψ) : okX (sAdd Ψ b l r) := by
  unfold sAdd
  split
  · exact h
  · split
    · exact h
    · obtain ⟨⟨h1, h2, h3, h4, h5⟩, h6, h7⟩ := h
      refine ⟨⟨h1, h2, ⟨by rw [insL_len]; omega, fun z hz => ?_⟩, h4, h5⟩, ok_keep h6 ⟨h1, h2, h3, h4, h5⟩, h7⟩
      have := h1.1
      rcases insL_mem z hz with rfl | hz
      · simp only; omega
      · exact h3.2 z hz
theorem kX_can {Ψ : Fs} {k : Int} (h : okX Ψ) : okX (sCan Ψ k) := by
  unfold sCan
  split
  · exact h
  · split
    · exact h
    · obtain ⟨⟨h1, h2, h3, h4, h5⟩, h6, h7⟩ := h
      exact ⟨⟨h1, h2, ⟨by rw [delL_len]; have := h3.1; omega, fun z hz => h3.2 z (delL_mem z hz)⟩, h4, h5⟩, ok_keep h6 ⟨h1, h2, h3, h4, h5⟩, h7⟩
theorem kX_run {Ψ : Fs} {k : Int} (h : okX Ψ) : okX (sRun Ψ k) := by
  unfold sRun
  split
  · obtain ⟨e1, e2, e3⟩ := eTk_0 (by assumption)
    exact ⟨ok_ticks h.1 _ (by omega), ok_keep h.2.1 h.1, h.2.2⟩
  · exact h
theorem kX_und {Ψ : Fs} (h : okX Ψ) : okX (sUnd Ψ) := by
  obtain ⟨σ, hs, tx⟩ := Ψ
  unfold sUnd
  simp only
  cases e : hs.getLast? with
  | none => exact h
  | some τ =>
    have hm : τ ∈ hs := List.mem_of_getLast? e
    refine ⟨h.2.1.2 τ hm, ⟨?_, fun z hz => h.2.1.2 z (List.dropLast_subset _ hz)⟩, h.2.2⟩
    have := h.2.1.1
    simp only [List.length_dropLast] at this ⊢
    omega
theorem kX_set {Ψ : Fs} {w x : Int} (h : okX Ψ) : okX (sSet Ψ w x) := by
  unfold sSet
  split
  · exact h
  · rename_i hg
    obtain ⟨g1, g2⟩ : (0 ≤ w ∧ w ≤ 7) ∧ (tbV 0 w.toNat ≤ x ∧ x ≤ tbV 1 w.toNat) := by
      refine ⟨?_, ?_⟩
      · exact Classical.byContradiction (fun q => hg (Or.inl q))
      · exact Classical.byContradiction (fun q => hg (Or.inr q))
    obtain ⟨⟨h1, h2, h3, h4, h5⟩, h6, h7⟩ := h
    refine ⟨⟨okSc_hi h1 (by omega), ?_, h3, h4, ?_⟩, ok_keep h6 ⟨h1, h2, h3, h4, h5⟩, h7⟩
    · obtain ⟨e1, e2, e3, e4, e5, e6, e7, e8⟩ := h2
      have t0 : tbV 0 0 = 20 ∧ tbV 1 0 = 500 := by decide
      have t1 : tbV 0 1 = 0 ∧ tbV 1 1 = 20 := by decide
      have t2 : tbV 0 2 = 0 ∧ tbV 1 2 = 200 := by decide
      have t3 : tbV 0 3 = 0 ∧ tbV 1 3 = 50 := by decide
      have t4 : tbV 0 4 = 0 ∧ tbV 1 4 = 50 := by decide
      have t5 : tbV 0 5 = 10 ∧ tbV 1 5 = 1000 := by decide
      have t6 : tbV 0 6 = 1 ∧ tbV 1 6 = 2000 := by decide
      have t7 : tbV 0 7 = 1 ∧ tbV 1 7 = 1000 := by decide
      rcases (show w = 0 ∨ w = 1 ∨ w = 2 ∨ w = 3 ∨ w = 4 ∨ w = 5 ∨ w = 6 ∨ w = 7 by omega) with rfl | rfl | rfl | rfl | rfl | rfl | rfl | rfl
      · have g2 : tbV 0 0 ≤ x ∧ x ≤ tbV 1 0 := g2
        refine ⟨?_, ?_, ?_, ?_, ?_, ?_, ?_, ?_⟩
        · show 20 ≤ upI Ψ.1.1 11 x 11 ∧ upI Ψ.1.1 11 x 11 ≤ 500
          rw [upI_s]; omega
        all_goals exact (by first | exact e1 | exact e2 | exact e3 | exact e4 | exact e5 | exact e6 | exact e7 | exact e8)
      · have g2 : tbV 0 1 ≤ x ∧ x ≤ tbV 1 1 := g2
        exact ⟨e1, ⟨by show 0 ≤ upI Ψ.1.1 12 x 12; rw [upI_s]; omega, by show upI Ψ.1.1 12 x 12 ≤ 20; rw [upI_s]; omega⟩, e3, e4, e5, e6, e7, e8⟩
      · have g2 : tbV 0 2 ≤ x ∧ x ≤ tbV 1 2 := g2
        exact ⟨e1, e2, ⟨by show 0 ≤ upI Ψ.1.1 13 x 13; rw [upI_s]; omega, by show upI Ψ.1.1 13 x 13 ≤ 200; rw [upI_s]; omega⟩, e4, e5, e6, e7, e8⟩
      · have g2 : tbV 0 3 ≤ x ∧ x ≤ tbV 1 3 := g2
        exact ⟨e1, e2, e3, ⟨by show 0 ≤ upI Ψ.1.1 14 x 14; rw [upI_s]; omega, by show upI Ψ.1.1 14 x 14 ≤ 50; rw [upI_s]; omega⟩, e5, e6, e7, e8⟩
      · have g2 : tbV 0 4 ≤ x ∧ x ≤ tbV 1 4 := g2
        exact ⟨e1, e2, e3, e4, ⟨by show 0 ≤ upI Ψ.1.1 15 x 15; rw [upI_s]; omega, by show upI Ψ.1.1 15 x 15 ≤ 50; rw [upI_s]; omega⟩, e6, e7, e8⟩
      · have g2 : tbV 0 5 ≤ x ∧ x ≤ tbV 1 5 := g2
        exact ⟨e1, e2, e3, e4, e5, ⟨by show 10 ≤ upI Ψ.1.1 16 x 16; rw [upI_s]; omega, by show upI Ψ.1.1 16 x 16 ≤ 1000; rw [upI_s]; omega⟩, e7, e8⟩
      · have g2 : tbV 0 6 ≤ x ∧ x ≤ tbV 1 6 := g2
        exact ⟨e1, e2, e3, e4, e5, e6, ⟨by show 1 ≤ upI Ψ.1.1 17 x 17; rw [upI_s]; omega, by show upI Ψ.1.1 17 x 17 ≤ 2000; rw [upI_s]; omega⟩, e8⟩
      · have g2 : tbV 0 7 ≤ x ∧ x ≤ tbV 1 7 := g2
        exact ⟨e1, e2, e3, e4, e5, e6, e7, ⟨by show 1 ≤ upI Ψ.1.1 18 x 18; rw [upI_s]; omega, by show upI Ψ.1.1 18 x 18 ≤ 1000; rw [upI_s]; omega⟩⟩
    · show okMk Ψ.1.2.2.2 (upI Ψ.1.1 (11 + w.toNat) x 0)
      rw [upI_n (by omega)]
      exact h5
theorem kX_win {Ψ : Fs} (h : okX Ψ) : okX (sWin Ψ) := by
  obtain ⟨⟨h1, h2, h3, h4, h5⟩, h6, h7⟩ := h
  have e7 := h2.2.2.2.2.2.2.1
  refine ⟨⟨?_, h2, h3, h4, h5⟩, ok_keep h6 ⟨h1, h2, h3, h4, h5⟩, h7⟩
  obtain ⟨q0, q1, q2, q3, q4, q5⟩ := h1
  exact ⟨q0, q1, q2, q3, ⟨by show 0 ≤ upI Ψ.1.1 4 (Ψ.1.1 17) 4; rw [upI_s]; omega, by show upI Ψ.1.1 4 (Ψ.1.1 17) 4 ≤ 2000; rw [upI_s]; omega⟩, q5⟩
theorem kX_gad {Ψ : Fs} {x y : Int} (h : okX Ψ) : okX (sGad Ψ x y) := by
  unfold sGad
  split
  · exact h
  · split
    · exact h
    · obtain ⟨⟨h1, h2, h3, h4, h5⟩, h6, h7⟩ := h
      refine ⟨⟨h1, h2, h3, ⟨by rw [List.length_append, List.length_singleton]; omega, fun z hz => ?_⟩, h5⟩, ok_keep h6 ⟨h1, h2, h3, h4, h5⟩, h7⟩
      rcases List.mem_append.mp hz with hz | hz
      · exact h4.2 z hz
      · rw [List.mem_singleton.mp hz]
        simp only
        omega
theorem kX_gre {Ψ : Fs} {k : Int} (h : okX Ψ) : okX (sGre Ψ k) := by
  unfold sGre
  split
  · exact h
  · obtain ⟨⟨h1, h2, h3, h4, h5⟩, h6, h7⟩ := h
    exact ⟨⟨h1, h2, h3, ⟨by rw [delG_len]; have := h4.1; omega, fun z hz => h4.2 z (delG_mem z hz)⟩, h5⟩, ok_keep h6 ⟨h1, h2, h3, h4, h5⟩, h7⟩
end
section
/-! the constructors -/
theorem v_asExt {X : Fx} {E : Wd} {z : Nat × Nat × Nat} {pc : Nat} {ls : List (Option Value)} {st : List Value} {o n : Nat} {g g' : Nat → Option Nat} (he : E o = some (AS (fG X) n g)) (hg : ∀ j, j < n → g j = g' j) (kk : ∀ E1 : Wd, E1 o = some (AS (fG X) n g') → (∀ j, j ≠ o → E1 j = E j) → V X E1 z pc ls st) : V X E z pc ls st := by
  intro H locs L h1
  refine kk _ upW_s upW_n H locs L ⟨h1.1.upd ?_ (fun _ _ => rfl), h1.2⟩
  have e := h1.1 o _ he
  have e : H[gb (fG X) + o]? = some (vp_cell _ _) := e
  show H[gb (fG X) + o]? = some (vp_cell _ _)
  rw [e, vp_cell_q, vp_cell_q]
  unfold arrV
  congr 2
  congr 1
  funext j
  show va_rf (Option.map _ (g j.1)) = va_rf (Option.map _ (g' j.1))
  rw [hg j.1 j.2]
set_option maxRecDepth 100000 in
set_option maxHeartbeats 4000000 in
theorem k_Fi (lc : Launch) (G : Gc) (E : Wd) (nh : Nat) {o : Nat} (h : E o = some (oFi 0 0)) : CV lc G 1 yX2_init cX2_init 1 [.ref (gb G + o)] E nh 0 0 (fun E' => E' = E) := by
  refine CV.mk (by decide +kernel) rfl (Nat.le_of_ble_eq_true rfl) ?_
  intro X hG hL cx hR hI hini
  subst hG; subst hL
  have hini := hini rfl
  show V X E (nh, 0, 0) 0 [some (.ref (gb (fG X) + o))] []
  refine v_aload_n (pc := 0) cx rfl ga0 dX2_init_0 ?_
  refine v_objInit (pc := 1) cx hR (by decide) oiX2_1 oi_i oi_c (Nat.le_of_ble_eq_true rfl) dX2_init_1 ?_
  refine v_return (pc := 4) cx hI ?_ dX2_init_4
  rfl
set_option maxRecDepth 100000 in
set_option maxHeartbeats 4000000 in
theorem k_Bk (lc : Launch) (G : Gc) (E : Wd) (nh : Nat) {o : Nat} (h : E o = some (oBk (0, 0, 0, 0, 0, 0))) : CV lc G 1 yX0_init cX0_init 1 [.ref (gb G + o)] E nh 0 0 (fun E' => E' = E) := by
  refine CV.mk (by decide +kernel) rfl (Nat.le_of_ble_eq_true rfl) ?_
  intro X hG hL cx hR hI hini
  subst hG; subst hL
  have hini := hini rfl
  show V X E (nh, 0, 0) 0 [some (.ref (gb (fG X) + o))] []
  refine v_aload_n (pc := 0) cx rfl ga0 dX0_init_0 ?_
  refine v_objInit (pc := 1) cx hR (by decide) oiX0_3 oi_i oi_c (Nat.le_of_ble_eq_true rfl) dX0_init_1 ?_
  refine v_return (pc := 4) cx hI ?_ dX0_init_4
  rfl
set_option maxRecDepth 100000 in
set_option maxHeartbeats 4000000 in
theorem k_Cl (lc : Launch) (G : Gc) (E : Wd) (nh : Nat) {o : Nat} (h : E o = some (oCl 0 0)) : CV lc G 1 yX1_init cX1_init 1 [.ref (gb G + o)] E nh 0 0 (fun E' => E' o = some (oCl 500 0) ∧ Out E E' o (o + 1)) := by
  refine CV.mk (by decide +kernel) rfl (Nat.le_of_ble_eq_true rfl) ?_
  intro X hG hL cx hR hI hini
  subst hG; subst hL
  have hini := hini rfl
  show V X E (nh, 0, 0) 0 [some (.ref (gb (fG X) + o))] []
  have hFr : Out E E o (o + 1) := fun _ _ => rfl
  refine v_aload_n (pc := 0) cx rfl ga0 dX1_init_0 ?_
  refine v_objInit (pc := 1) cx hR (by decide) oiX1_3 oi_i oi_c (Nat.le_of_ble_eq_true rfl) dX1_init_1 ?_
  refine v_aload_n (pc := 4) cx rfl ga0 dX1_init_4 ?_
  refine v_getstaticN (pc := 5) cx 2 (by decide) gnX1_9 dX1_init_5 ?_
  refine v_bipush (pc := 8) cx (by decide) dX1_init_8 ?_
  refine v_tload (pc := 10) cx (6) (by decide) (by omega) dX1_init_10 ?_
  refine v_putfield (pc := 11) cx fpX1_13 h ⟨rfl, rfl⟩ pf0 dX1_init_11 (fun E11 hE11 hF11 => ?_)
  replace h := hE11
  replace hFr := fun j hj => (hF11 j (by omega)).trans (hFr j hj)
  refine v_return (pc := 14) cx hI ?_ dX1_init_14
  exact ⟨h, hFr⟩
set_option maxRecDepth 100000 in
set_option maxHeartbeats 4000000 in
theorem k_Ge (lc : Launch) (G : Gc) (E : Wd) (nh : Nat) {o : Nat} (hn : nh = o + 1) (h : E o = some (.inr (3, [.null, .null, .int (iI 0)]))) : CV lc G 1 yX3_init cX3_init 1 [.ref (gb G + o)] E nh 2 6 (fun E' => rGe G E' o 0 (fun _ => 0) (fun _ => 0) ∧ Out E E' o (o + 3)) := by
  refine CV.mk (by decide +kernel) rfl (Nat.le_of_ble_eq_true rfl) ?_
  intro X hG hL cx hR hI hini
  subst hG; subst hL
  have hini := hini rfl
  show V X E (nh, 0, 0) 0 [some (.ref (gb (fG X) + o))] []
  subst hn
  have hFr : Out E E o (o + 3) := fun _ _ => rfl
  refine v_aload_n (pc := 0) cx rfl ga0 dX3_init_0 ?_
  refine v_objInit (pc := 1) cx hR (by decide) oiX3_3 oi_i oi_c (Nat.le_of_ble_eq_true rfl) dX3_init_1 ?_
  refine v_aload_n (pc := 4) cx rfl ga0 dX3_init_4 ?_
  refine v_iconst (pc := 5) cx dX3_init_5 ?_
  refine v_newint (pc := 6) cx 3 hR aw_int ⟨rfl, by decide⟩ ⟨Nat.le_of_ble_eq_true rfl, Nat.le_of_ble_eq_true rfl⟩ dX3_init_6 (fun E6 hE6 hF6 => ?_)
  replace hE6 : E6 (o + 1) = _ := hE6
  replace hF6 : ∀ j, j ≠ o + 1 → E6 j = _ := hF6
  replace h := (hF6 _ (by omega)).trans h
  replace hFr := fun j hj => (hF6 j (by omega)).trans (hFr j hj)
  refine v_putfieldF (pc := 8) cx hini fpX3_9 h ⟨rfl, rfl⟩ pf0 dX3_init_8 (fun E8 hE8 hF8 => ?_)
  replace h := hE8
  replace hFr := fun j hj => (hF8 j (by omega)).trans (hFr j hj)
  replace hE6 := (hF8 _ (by omega)).trans hE6
  refine v_aload_n (pc := 11) cx rfl ga0 dX3_init_11 ?_
  refine v_iconst (pc := 12) cx dX3_init_12 ?_
  refine v_newint (pc := 13) cx 3 hR aw_int ⟨rfl, by decide⟩ ⟨Nat.le_of_ble_eq_true rfl, Nat.le_of_ble_eq_true rfl⟩ dX3_init_13 (fun E13 hE13 hF13 => ?_)
  replace hE13 : E13 (o + 2) = _ := hE13
  replace hF13 : ∀ j, j ≠ o + 2 → E13 j = _ := hF13
  replace h := (hF13 _ (by omega)).trans h
  replace hFr := fun j hj => (hF13 j (by omega)).trans (hFr j hj)
  replace hE6 := (hF13 _ (by omega)).trans hE6
  refine v_putfieldF (pc := 15) cx hini fpX3_15 h ⟨rfl, rfl⟩ pf1 dX3_init_15 (fun E15 hE15 hF15 => ?_)
  replace h := hE15
  replace hFr := fun j hj => (hF15 j (by omega)).trans (hFr j hj)
  replace hE6 := (hF15 _ (by omega)).trans hE6
  replace hE13 := (hF15 _ (by omega)).trans hE13
  refine v_return (pc := 18) cx hI ?_ dX3_init_18
  exact ⟨⟨h, hE6, hE13⟩, hFr⟩
set_option maxRecDepth 100000 in
set_option maxHeartbeats 4000000 in
theorem k_Mk (lc : Launch) (G : Gc) (E : Wd) (nh : Nat) {o : Nat} (hn : nh = o + 1) (h : E o = some (.inr (5, [.null, .null, .null, .int (iI 0)]))) : CV lc G 1 yX5_init cX5_init 1 [.ref (gb G + o)] E nh 3 180 (fun E' => rMk G E' o 0 (fun _ => 0) (fun _ => 0) (fun _ => 0) ∧ Out E E' o (o + 4)) := by
  refine CV.mk (by decide +kernel) rfl (Nat.le_of_ble_eq_true rfl) ?_
  intro X hG hL cx hR hI hini
  subst hG; subst hL
  have hini := hini rfl
  show V X E (nh, 0, 0) 0 [some (.ref (gb (fG X) + o))] []
  subst hn
  have hFr : Out E E o (o + 4) := fun _ _ => rfl
  refine v_aload_n (pc := 0) cx rfl ga0 dX5_init_0 ?_
  refine v_objInit (pc := 1) cx hR (by decide) oiX5_3 oi_i oi_c (Nat.le_of_ble_eq_true rfl) dX5_init_1 ?_
  refine v_aload_n (pc := 4) cx rfl ga0 dX5_init_4 ?_
  refine v_bipush (pc := 5) cx (by decide) dX5_init_5 ?_
  refine v_newint (pc := 7) cx 60 hR aw_int ⟨rfl, by decide⟩ ⟨Nat.le_of_ble_eq_true rfl, Nat.le_of_ble_eq_true rfl⟩ dX5_init_7 (fun E7 hE7 hF7 => ?_)
  replace hE7 : E7 (o + 1) = _ := hE7
  replace hF7 : ∀ j, j ≠ o + 1 → E7 j = _ := hF7
  replace h := (hF7 _ (by omega)).trans h
  replace hFr := fun j hj => (hF7 j (by omega)).trans (hFr j hj)
  refine v_putfieldF (pc := 9) cx hini fpX5_9 h ⟨rfl, rfl⟩ pf0 dX5_init_9 (fun E9 hE9 hF9 => ?_)
  replace h := hE9
  replace hFr := fun j hj => (hF9 j (by omega)).trans (hFr j hj)
  replace hE7 := (hF9 _ (by omega)).trans hE7
  refine v_aload_n (pc := 12) cx rfl ga0 dX5_init_12 ?_
  refine v_bipush (pc := 13) cx (by decide) dX5_init_13 ?_
  refine v_newint (pc := 15) cx 60 hR aw_int ⟨rfl, by decide⟩ ⟨Nat.le_of_ble_eq_true rfl, Nat.le_of_ble_eq_true rfl⟩ dX5_init_15 (fun E15 hE15 hF15 => ?_)
  replace hE15 : E15 (o + 2) = _ := hE15
  replace hF15 : ∀ j, j ≠ o + 2 → E15 j = _ := hF15
  replace h := (hF15 _ (by omega)).trans h
  replace hFr := fun j hj => (hF15 j (by omega)).trans (hFr j hj)
  replace hE7 := (hF15 _ (by omega)).trans hE7
  refine v_putfieldF (pc := 17) cx hini fpX5_15 h ⟨rfl, rfl⟩ pf1 dX5_init_17 (fun E17 hE17 hF17 => ?_)
  replace h := hE17
  replace hFr := fun j hj => (hF17 j (by omega)).trans (hFr j hj)
  replace hE7 := (hF17 _ (by omega)).trans hE7
  replace hE15 := (hF17 _ (by omega)).trans hE15
  refine v_aload_n (pc := 20) cx rfl ga0 dX5_init_20 ?_
  refine v_bipush (pc := 21) cx (by decide) dX5_init_21 ?_
  refine v_newint (pc := 23) cx 60 hR aw_int ⟨rfl, by decide⟩ ⟨Nat.le_of_ble_eq_true rfl, Nat.le_of_ble_eq_true rfl⟩ dX5_init_23 (fun E23 hE23 hF23 => ?_)
  replace hE23 : E23 (o + 3) = _ := hE23
  replace hF23 : ∀ j, j ≠ o + 3 → E23 j = _ := hF23
  replace h := (hF23 _ (by omega)).trans h
  replace hFr := fun j hj => (hF23 j (by omega)).trans (hFr j hj)
  replace hE7 := (hF23 _ (by omega)).trans hE7
  replace hE15 := (hF23 _ (by omega)).trans hE15
  refine v_putfieldF (pc := 25) cx hini fpX5_18 h ⟨rfl, rfl⟩ pf2 dX5_init_25 (fun E25 hE25 hF25 => ?_)
  replace h := hE25
  replace hFr := fun j hj => (hF25 j (by omega)).trans (hFr j hj)
  replace hE7 := (hF25 _ (by omega)).trans hE7
  replace hE15 := (hF25 _ (by omega)).trans hE15
  replace hE23 := (hF25 _ (by omega)).trans hE23
  refine v_return (pc := 28) cx hI ?_ dX5_init_28
  exact ⟨⟨h, hE7, hE15, hE23⟩, hFr⟩
set_option maxRecDepth 100000 in
set_option maxHeartbeats 4000000 in
theorem k_Sh (lc : Launch) (G : Gc) (E : Wd) (nh : Nat) {o : Nat} (hn : nh = o + 1) (h : E o = some (.inr (8, [.null, .null, .null, .int (iI 0)]))) : CV lc G 1 yX8_init cX8_init 1 [.ref (gb G + o)] E nh 3 36 (fun E' => rSh G E' o 0 (fun _ => 0) (fun _ => 0) (fun _ => 0) ∧ Out E E' o (o + 4)) := by
  refine CV.mk (by decide +kernel) rfl (Nat.le_of_ble_eq_true rfl) ?_
  intro X hG hL cx hR hI hini
  subst hG; subst hL
  have hini := hini rfl
  show V X E (nh, 0, 0) 0 [some (.ref (gb (fG X) + o))] []
  subst hn
  have hFr : Out E E o (o + 4) := fun _ _ => rfl
  refine v_aload_n (pc := 0) cx rfl ga0 dX8_init_0 ?_
  refine v_objInit (pc := 1) cx hR (by decide) oiX8_3 oi_i oi_c (Nat.le_of_ble_eq_true rfl) dX8_init_1 ?_
  refine v_aload_n (pc := 4) cx rfl ga0 dX8_init_4 ?_
  refine v_bipush (pc := 5) cx (by decide) dX8_init_5 ?_
  refine v_newint (pc := 7) cx 12 hR aw_int ⟨rfl, by decide⟩ ⟨Nat.le_of_ble_eq_true rfl, Nat.le_of_ble_eq_true rfl⟩ dX8_init_7 (fun E7 hE7 hF7 => ?_)
  replace hE7 : E7 (o + 1) = _ := hE7
  replace hF7 : ∀ j, j ≠ o + 1 → E7 j = _ := hF7
  replace h := (hF7 _ (by omega)).trans h
  replace hFr := fun j hj => (hF7 j (by omega)).trans (hFr j hj)
  refine v_putfieldF (pc := 9) cx hini fpX8_9 h ⟨rfl, rfl⟩ pf0 dX8_init_9 (fun E9 hE9 hF9 => ?_)
  replace h := hE9
  replace hFr := fun j hj => (hF9 j (by omega)).trans (hFr j hj)
  replace hE7 := (hF9 _ (by omega)).trans hE7
  refine v_aload_n (pc := 12) cx rfl ga0 dX8_init_12 ?_
  refine v_bipush (pc := 13) cx (by decide) dX8_init_13 ?_
  refine v_newint (pc := 15) cx 12 hR aw_int ⟨rfl, by decide⟩ ⟨Nat.le_of_ble_eq_true rfl, Nat.le_of_ble_eq_true rfl⟩ dX8_init_15 (fun E15 hE15 hF15 => ?_)
  replace hE15 : E15 (o + 2) = _ := hE15
  replace hF15 : ∀ j, j ≠ o + 2 → E15 j = _ := hF15
  replace h := (hF15 _ (by omega)).trans h
  replace hFr := fun j hj => (hF15 j (by omega)).trans (hFr j hj)
  replace hE7 := (hF15 _ (by omega)).trans hE7
  refine v_putfieldF (pc := 17) cx hini fpX8_15 h ⟨rfl, rfl⟩ pf1 dX8_init_17 (fun E17 hE17 hF17 => ?_)
  replace h := hE17
  replace hFr := fun j hj => (hF17 j (by omega)).trans (hFr j hj)
  replace hE7 := (hF17 _ (by omega)).trans hE7
  replace hE15 := (hF17 _ (by omega)).trans hE15
  refine v_aload_n (pc := 20) cx rfl ga0 dX8_init_20 ?_
  refine v_bipush (pc := 21) cx (by decide) dX8_init_21 ?_
  refine v_newint (pc := 23) cx 12 hR aw_int ⟨rfl, by decide⟩ ⟨Nat.le_of_ble_eq_true rfl, Nat.le_of_ble_eq_true rfl⟩ dX8_init_23 (fun E23 hE23 hF23 => ?_)
  replace hE23 : E23 (o + 3) = _ := hE23
  replace hF23 : ∀ j, j ≠ o + 3 → E23 j = _ := hF23
  replace h := (hF23 _ (by omega)).trans h
  replace hFr := fun j hj => (hF23 j (by omega)).trans (hFr j hj)
  replace hE7 := (hF23 _ (by omega)).trans hE7
  replace hE15 := (hF23 _ (by omega)).trans hE15
  refine v_putfieldF (pc := 25) cx hini fpX8_18 h ⟨rfl, rfl⟩ pf2 dX8_init_25 (fun E25 hE25 hF25 => ?_)
  replace h := hE25
  replace hFr := fun j hj => (hF25 j (by omega)).trans (hFr j hj)
  replace hE7 := (hF25 _ (by omega)).trans hE7
  replace hE15 := (hF25 _ (by omega)).trans hE15
  replace hE23 := (hF25 _ (by omega)).trans hE23
  refine v_return (pc := 28) cx hI ?_ dX8_init_28
  exact ⟨⟨h, hE7, hE15, hE23⟩, hFr⟩
set_option maxRecDepth 100000 in
set_option maxHeartbeats 4000000 in
theorem k_Rd (lc : Launch) (G : Gc) (E : Wd) (nh : Nat) {o : Nat} (hn : nh = o + 1) (h : E o = some (.inr (7, [.null, .null, .null, .int (iI 0), .int (iI 0), .int (iI 0), .int (iI 0)]))) : CV lc G 1 yX7_init cX7_init 1 [.ref (gb G + o)] E nh 3 36 (fun E' => rRd G E' o 0 0 0 0 (fun _ => 0) (fun _ => 0) (fun _ => 0) ∧ Out E E' o (o + 4)) := by
  refine CV.mk (by decide +kernel) rfl (Nat.le_of_ble_eq_true rfl) ?_
  intro X hG hL cx hR hI hini
  subst hG; subst hL
  have hini := hini rfl
  show V X E (nh, 0, 0) 0 [some (.ref (gb (fG X) + o))] []
  subst hn
  have hFr : Out E E o (o + 4) := fun _ _ => rfl
  refine v_aload_n (pc := 0) cx rfl ga0 dX7_init_0 ?_
  refine v_objInit (pc := 1) cx hR (by decide) oiX7_3 oi_i oi_c (Nat.le_of_ble_eq_true rfl) dX7_init_1 ?_
  refine v_aload_n (pc := 4) cx rfl ga0 dX7_init_4 ?_
  refine v_bipush (pc := 5) cx (by decide) dX7_init_5 ?_
  refine v_newint (pc := 7) cx 12 hR aw_int ⟨rfl, by decide⟩ ⟨Nat.le_of_ble_eq_true rfl, Nat.le_of_ble_eq_true rfl⟩ dX7_init_7 (fun E7 hE7 hF7 => ?_)
  replace hE7 : E7 (o + 1) = _ := hE7
  replace hF7 : ∀ j, j ≠ o + 1 → E7 j = _ := hF7
  replace h := (hF7 _ (by omega)).trans h
  replace hFr := fun j hj => (hF7 j (by omega)).trans (hFr j hj)
  refine v_putfieldF (pc := 9) cx hini fpX7_9 h ⟨rfl, rfl⟩ pf0 dX7_init_9 (fun E9 hE9 hF9 => ?_)
  replace h := hE9
  replace hFr := fun j hj => (hF9 j (by omega)).trans (hFr j hj)
  replace hE7 := (hF9 _ (by omega)).trans hE7
  refine v_aload_n (pc := 12) cx rfl ga0 dX7_init_12 ?_
  refine v_bipush (pc := 13) cx (by decide) dX7_init_13 ?_
  refine v_newint (pc := 15) cx 12 hR aw_int ⟨rfl, by decide⟩ ⟨Nat.le_of_ble_eq_true rfl, Nat.le_of_ble_eq_true rfl⟩ dX7_init_15 (fun E15 hE15 hF15 => ?_)
  replace hE15 : E15 (o + 2) = _ := hE15
  replace hF15 : ∀ j, j ≠ o + 2 → E15 j = _ := hF15
  replace h := (hF15 _ (by omega)).trans h
  replace hFr := fun j hj => (hF15 j (by omega)).trans (hFr j hj)
  replace hE7 := (hF15 _ (by omega)).trans hE7
  refine v_putfieldF (pc := 17) cx hini fpX7_15 h ⟨rfl, rfl⟩ pf1 dX7_init_17 (fun E17 hE17 hF17 => ?_)
  replace h := hE17
  replace hFr := fun j hj => (hF17 j (by omega)).trans (hFr j hj)
  replace hE7 := (hF17 _ (by omega)).trans hE7
  replace hE15 := (hF17 _ (by omega)).trans hE15
  refine v_aload_n (pc := 20) cx rfl ga0 dX7_init_20 ?_
  refine v_bipush (pc := 21) cx (by decide) dX7_init_21 ?_
  refine v_newint (pc := 23) cx 12 hR aw_int ⟨rfl, by decide⟩ ⟨Nat.le_of_ble_eq_true rfl, Nat.le_of_ble_eq_true rfl⟩ dX7_init_23 (fun E23 hE23 hF23 => ?_)
  replace hE23 : E23 (o + 3) = _ := hE23
  replace hF23 : ∀ j, j ≠ o + 3 → E23 j = _ := hF23
  replace h := (hF23 _ (by omega)).trans h
  replace hFr := fun j hj => (hF23 j (by omega)).trans (hFr j hj)
  replace hE7 := (hF23 _ (by omega)).trans hE7
  replace hE15 := (hF23 _ (by omega)).trans hE15
  refine v_putfieldF (pc := 25) cx hini fpX7_18 h ⟨rfl, rfl⟩ pf2 dX7_init_25 (fun E25 hE25 hF25 => ?_)
  replace h := hE25
  replace hFr := fun j hj => (hF25 j (by omega)).trans (hFr j hj)
  replace hE7 := (hF25 _ (by omega)).trans hE7
  replace hE15 := (hF25 _ (by omega)).trans hE15
  replace hE23 := (hF25 _ (by omega)).trans hE23
  refine v_return (pc := 28) cx hI ?_ dX7_init_28
  exact ⟨⟨h, hE7, hE15, hE23⟩, hFr⟩
set_option maxRecDepth 100000 in
set_option maxHeartbeats 4000000 in
theorem k_Ol (lc : Launch) (G : Gc) (E : Wd) (nh : Nat) {o : Nat} (hn : nh = o + 1) (h : E o = some (.inr (6, [.null, .null, .int (iI 0)]))) : CV lc G 1 yX6_init cX6_init 1 [.ref (gb G + o)] E nh 2 2000 (fun E' => rOl G E' o 0 (fun _ => 0) (fun _ => 0) ∧ Out E E' o (o + 3)) := by
  refine CV.mk (by decide +kernel) rfl (Nat.le_of_ble_eq_true rfl) ?_
  intro X hG hL cx hR hI hini
  subst hG; subst hL
  have hini := hini rfl
  show V X E (nh, 0, 0) 0 [some (.ref (gb (fG X) + o))] []
  subst hn
  have hFr : Out E E o (o + 3) := fun _ _ => rfl
  refine v_aload_n (pc := 0) cx rfl ga0 dX6_init_0 ?_
  refine v_objInit (pc := 1) cx hR (by decide) oiX6_3 oi_i oi_c (Nat.le_of_ble_eq_true rfl) dX6_init_1 ?_
  refine v_aload_n (pc := 4) cx rfl ga0 dX6_init_4 ?_
  refine v_sipush (pc := 5) cx (by decide) dX6_init_5 ?_
  refine v_newint (pc := 8) cx 1000 hR aw_int ⟨rfl, by decide⟩ ⟨Nat.le_of_ble_eq_true rfl, Nat.le_of_ble_eq_true rfl⟩ dX6_init_8 (fun E8 hE8 hF8 => ?_)
  replace hE8 : E8 (o + 1) = _ := hE8
  replace hF8 : ∀ j, j ≠ o + 1 → E8 j = _ := hF8
  replace h := (hF8 _ (by omega)).trans h
  replace hFr := fun j hj => (hF8 j (by omega)).trans (hFr j hj)
  refine v_putfieldF (pc := 10) cx hini fpX6_9 h ⟨rfl, rfl⟩ pf0 dX6_init_10 (fun E10 hE10 hF10 => ?_)
  replace h := hE10
  replace hFr := fun j hj => (hF10 j (by omega)).trans (hFr j hj)
  replace hE8 := (hF10 _ (by omega)).trans hE8
  refine v_aload_n (pc := 13) cx rfl ga0 dX6_init_13 ?_
  refine v_sipush (pc := 14) cx (by decide) dX6_init_14 ?_
  refine v_newbool (pc := 17) cx 1000 hR aw_boolean ⟨rfl, by decide⟩ ⟨Nat.le_of_ble_eq_true rfl, Nat.le_of_ble_eq_true rfl⟩ dX6_init_17 (fun E17 hE17 hF17 => ?_)
  replace hE17 : E17 (o + 2) = _ := hE17
  replace hF17 : ∀ j, j ≠ o + 2 → E17 j = _ := hF17
  replace h := (hF17 _ (by omega)).trans h
  replace hFr := fun j hj => (hF17 j (by omega)).trans (hFr j hj)
  replace hE8 := (hF17 _ (by omega)).trans hE8
  refine v_putfieldF (pc := 19) cx hini fpX6_15 h ⟨rfl, rfl⟩ pf1 dX6_init_19 (fun E19 hE19 hF19 => ?_)
  replace h := hE19
  replace hFr := fun j hj => (hF19 j (by omega)).trans (hFr j hj)
  replace hE8 := (hF19 _ (by omega)).trans hE8
  replace hE17 := (hF19 _ (by omega)).trans hE17
  refine v_return (pc := 22) cx hI ?_ dX6_init_22
  exact ⟨⟨h, hE8, hE17⟩, hFr⟩
set_option maxRecDepth 100000 in
set_option maxHeartbeats 4000000 in
theorem k_Tx (lc : Launch) (G : Gc) (E : Wd) (nh : Nat) {o : Nat} (hn : nh = o + 1) (h : E o = some (.inr (10, [.null, .int (iI 0)]))) : CV lc G 1 yX10_init cX10_init 1 [.ref (gb G + o)] E nh 1 100 (fun E' => isTx G E' o [] ∧ Out E E' o (o + 2)) := by
  refine CV.mk (by decide +kernel) rfl (Nat.le_of_ble_eq_true rfl) ?_
  intro X hG hL cx hR hI hini
  subst hG; subst hL
  have hini := hini rfl
  show V X E (nh, 0, 0) 0 [some (.ref (gb (fG X) + o))] []
  subst hn
  have hFr : Out E E o (o + 2) := fun _ _ => rfl
  refine v_aload_n (pc := 0) cx rfl ga0 dX10_init_0 ?_
  refine v_objInit (pc := 1) cx hR (by decide) oiX10_3 oi_i oi_c (Nat.le_of_ble_eq_true rfl) dX10_init_1 ?_
  refine v_aload_n (pc := 4) cx rfl ga0 dX10_init_4 ?_
  refine v_bipush (pc := 5) cx (by decide) dX10_init_5 ?_
  refine v_newchar (pc := 7) cx 100 hR aw_char ⟨rfl, by decide⟩ ⟨Nat.le_of_ble_eq_true rfl, Nat.le_of_ble_eq_true rfl⟩ dX10_init_7 (fun E7 hE7 hF7 => ?_)
  replace hE7 : E7 (o + 1) = _ := hE7
  replace hF7 : ∀ j, j ≠ o + 1 → E7 j = _ := hF7
  replace h := (hF7 _ (by omega)).trans h
  replace hFr := fun j hj => (hF7 j (by omega)).trans (hFr j hj)
  refine v_putfieldF (pc := 9) cx hini fpX10_9 h ⟨rfl, rfl⟩ pf0 dX10_init_9 (fun E9 hE9 hF9 => ?_)
  replace h := hE9
  replace hFr := fun j hj => (hF9 j (by omega)).trans (hFr j hj)
  replace hE7 := (hF9 _ (by omega)).trans hE7
  refine v_return (pc := 12) cx hI ?_ dX10_init_12
  exact ⟨⟨_, ⟨h, hE7⟩, fun j hj => by simp at hj⟩, hFr⟩
end
section
/-! the constructors of the greater parts -/
def s0 : Nat → Int := fun i => match i with
  | 4 => 500
  | 11 => 100
  | 12 => 2
  | 13 => 10
  | 14 => 1
  | 16 => 360
  | 17 => 500
  | 18 => 60
  | _ => 0
def σ0 : Sg := (s0, [], [], [])
theorem ok_σ0 : ok σ0 := by
  refine ⟨?_, ?_, ⟨by decide, fun x hx => by cases hx⟩, ⟨by decide, fun x hx => by cases hx⟩, ⟨by decide, (fun x hx => by cases hx), List.Pairwise.nil⟩⟩
  · unfold okSc σ0 s0; decide
  · unfold okSe σ0 s0; decide
theorem okX_σ0 : okX (σ0, [], []) := ⟨ok_σ0, ⟨by decide, fun x hx => by cases hx⟩, ⟨by decide, fun x hx => by cases hx⟩⟩
set_option maxRecDepth 100000 in
set_option maxHeartbeats 4000000 in
theorem k_copyT (lc : Launch) (G : Gc) (E : Wd) (nh : Nat) {i od : Nat} {g : Nat → Int} (hi : i < 3) (hb : E od = some (AI G 8 g)) : CV lc G 1 yX11_copyRow cX11_copyRow 2 [.ref (gT G i), .ref (gb G + od)] E nh 0 0 (fun E' => E' od = some (AI G 8 (cpyI (tbV i) g 0 0 8)) ∧ ∀ j, j ≠ od → E' j = E j) := by
  refine CV.mk (by decide +kernel) rfl (Nat.le_of_ble_eq_true rfl) ?_
  intro X hG hL cx hR hI hini
  subst hG; subst hL
  show V X E (nh, 0, 0) 0 [some (.ref (gT (fG X) i)), some (.ref (gb (fG X) + od))] []
  refine v_aload_n (pc := 0) cx rfl ga0 dX11_copyRow_0 ?_
  refine v_iconst (pc := 1) cx dX11_copyRow_1 ?_
  refine v_aload_n (pc := 2) cx rfl ga1 dX11_copyRow_2 ?_
  refine v_iconst (pc := 3) cx dX11_copyRow_3 ?_
  refine v_aload_n (pc := 4) cx rfl ga0 dX11_copyRow_4 ?_
  refine v_tlen (pc := 5) cx hi dX11_copyRow_5 ?_
  refine v_aload_n (pc := 6) cx rfl ga1 dX11_copyRow_6 ?_
  refine v_alen (pc := 7) cx (by assumption) rfl dX11_copyRow_7 ?_
  refine v_callSI (pc := 8) cx hR (c_min _ _ _ _ ⟨⟨by omega, by omega⟩, ⟨by omega, by omega⟩⟩) mlX11_264 (by decide) rfl (Nat.le_of_ble_eq_true rfl) ⟨Nat.le_refl _, Nat.le_refl _⟩ dX11_copyRow_8 (fun r E' hP => ?_)
  obtain ⟨rfl, rfl⟩ := hP
  rw [show min (8 : Int) ((8 : Nat) : Int) = ((8 : Nat) : Int) by omega]
  refine v_copyT (pc := 11) cx 0 0 8 hR (by decide) acX11_267 ac_n ac_s ac_i hi hb (by omega) (Nat.le_of_ble_eq_true rfl) dX11_copyRow_11 (fun E1 hE1 hF1 => ?_)
  refine v_return (pc := 14) cx hI ?_ dX11_copyRow_14
  exact ⟨hE1, hF1⟩
set_option maxRecDepth 100000 in
set_option maxHeartbeats 4000000 in
theorem k_St (lc : Launch) (G : Gc) (E : Wd) (nh : Nat) {o : Nat} (hn : nh = o + 1) (h : E o = some (.inr (9, [.null, .null, .null, .null, .null, .null, .null, .int (iI 0), .int (iI 0)]))) : CV lc G 2 yX9_init cX9_init 1 [.ref (gb G + o)] E nh 15 251 (fun E' => isS G E' o σ0 ∧ Out E E' o (o + 16)) := by
  refine CV.mk (by decide +kernel) rfl (Nat.le_of_ble_eq_true rfl) ?_
  intro X hG hL cx hR hI hini
  subst hG; subst hL
  have hini := hini rfl
  show V X E (nh, 0, 0) 0 [some (.ref (gb (fG X) + o))] []
  subst hn
  have hFr : Out E E o (o + 16) := fun _ _ => rfl
  refine v_aload_n (pc := 0) cx rfl ga0 dX9_init_0 ?_
  refine v_objInit (pc := 1) cx hR (by decide) oiX9_3 oi_i oi_c (Nat.le_of_ble_eq_true rfl) dX9_init_1 ?_
  refine v_aload_n (pc := 4) cx rfl ga0 dX9_init_4 ?_
  refine v_bipush (pc := 5) cx (by decide) dX9_init_5 ?_
  refine v_newint (pc := 7) cx 8 hR aw_int ⟨rfl, by decide⟩ ⟨Nat.le_of_ble_eq_true rfl, Nat.le_of_ble_eq_true rfl⟩ dX9_init_7 (fun E7 hE7 hF7 => ?_)
  replace hE7 : E7 (o + 1) = _ := hE7
  replace hF7 : ∀ j, j ≠ o + 1 → E7 j = _ := hF7
  replace h := (hF7 _ (by omega)).trans h
  replace hFr := fun j hj => (hF7 j (by omega)).trans (hFr j hj)
  refine v_putfieldF (pc := 9) cx hini fpX9_9 h ⟨rfl, rfl⟩ pf0 dX9_init_9 (fun E9 hE9 hF9 => ?_)
  replace h := hE9
  replace hFr := fun j hj => (hF9 j (by omega)).trans (hFr j hj)
  replace hE7 := (hF9 _ (by omega)).trans hE7
  refine v_aload_n (pc := 12) cx rfl ga0 dX9_init_12 ?_
  refine v_new (pc := 13) cx hR nwX9_15 ⟨Nat.le_of_ble_eq_true rfl, Nat.le_of_ble_eq_true rfl⟩ dX9_init_13 (fun E13 hE13 hF13 => ?_)
  replace hE13 : E13 (o + 2) = _ := hE13
  replace hF13 : ∀ j, j ≠ o + 2 → E13 j = _ := hF13
  replace h := (hF13 _ (by omega)).trans h
  replace hFr := fun j hj => (hF13 j (by omega)).trans (hFr j hj)
  replace hE7 := (hF13 _ (by omega)).trans hE7
  refine v_dup (pc := 16) cx rfl dX9_init_16 ?_
  refine v_callK (pc := 17) cx hR (k_Sh _ _ _ _ (o := o + 2) rfl hE13) mlX9_17 (by decide) rfl (Nat.le_of_ble_eq_true rfl) ⟨Nat.le_of_ble_eq_true rfl, Nat.le_of_ble_eq_true rfl⟩ dX9_init_17 (fun E1 hP => ?_)
  show V X _ (o + 6, 5, 48) _ _ _
  obtain ⟨⟨u0, u1, u2, u3⟩, hF⟩ := hP
  replace h := (hF _ (by omega)).trans h
  replace hE7 := (hF _ (by omega)).trans hE7
  replace hFr := fun j hj => (hF j (by omega)).trans (hFr j hj)
  refine v_putfieldF (pc := 20) cx hini fpX9_18 h ⟨rfl, rfl⟩ pf1 dX9_init_20 (fun E20 hE20 hF20 => ?_)
  replace h := hE20
  replace hE7 := (hF20 _ (by omega)).trans hE7
  replace u0 := (hF20 _ (by omega)).trans u0
  replace u1 := (hF20 _ (by omega)).trans u1
  replace u2 := (hF20 _ (by omega)).trans u2
  replace u3 := (hF20 _ (by omega)).trans u3
  replace hFr := fun j hj => (hF20 j (by omega)).trans (hFr j hj)
  refine v_aload_n (pc := 23) cx rfl ga0 dX9_init_23 ?_
  refine v_new (pc := 24) cx hR nwX9_22 ⟨Nat.le_of_ble_eq_true rfl, Nat.le_of_ble_eq_true rfl⟩ dX9_init_24 (fun E24 hE24 hF24 => ?_)
  replace hE24 : E24 (o + 6) = _ := hE24
  replace hF24 : ∀ j, j ≠ o + 6 → E24 j = _ := hF24
  replace h := (hF24 _ (by omega)).trans h
  replace hE7 := (hF24 _ (by omega)).trans hE7
  replace u0 := (hF24 _ (by omega)).trans u0
  replace u1 := (hF24 _ (by omega)).trans u1
  replace u2 := (hF24 _ (by omega)).trans u2
  replace u3 := (hF24 _ (by omega)).trans u3
  replace hFr := fun j hj => (hF24 j (by omega)).trans (hFr j hj)
  refine v_dup (pc := 27) cx rfl dX9_init_27 ?_
  refine v_callK (pc := 28) cx hR (k_Fi _ _ _ _ (o := o + 6) hE24) mlX9_24 (by decide) rfl (Nat.le_of_ble_eq_true rfl) ⟨Nat.le_of_ble_eq_true rfl, Nat.le_of_ble_eq_true rfl⟩ dX9_init_28 (fun E2 hP => ?_)
  show V X _ (o + 7, 6, 50) _ _ _
  subst hP
  refine v_putfieldF (pc := 31) cx hini fpX9_25 h ⟨rfl, rfl⟩ pf2 dX9_init_31 (fun E31 hE31 hF31 => ?_)
  replace h := hE31
  replace hE7 := (hF31 _ (by omega)).trans hE7
  replace u0 := (hF31 _ (by omega)).trans u0
  replace u1 := (hF31 _ (by omega)).trans u1
  replace u2 := (hF31 _ (by omega)).trans u2
  replace u3 := (hF31 _ (by omega)).trans u3
  replace hE24 := (hF31 _ (by omega)).trans hE24
  replace hFr := fun j hj => (hF31 j (by omega)).trans (hFr j hj)
  refine v_aload_n (pc := 34) cx rfl ga0 dX9_init_34 ?_
  refine v_new (pc := 35) cx hR nwX9_29 ⟨Nat.le_of_ble_eq_true rfl, Nat.le_of_ble_eq_true rfl⟩ dX9_init_35 (fun E35 hE35 hF35 => ?_)
  replace hE35 : E35 (o + 7) = _ := hE35
  replace hF35 : ∀ j, j ≠ o + 7 → E35 j = _ := hF35
  replace h := (hF35 _ (by omega)).trans h
  replace hE7 := (hF35 _ (by omega)).trans hE7
  replace u0 := (hF35 _ (by omega)).trans u0
  replace u1 := (hF35 _ (by omega)).trans u1
  replace u2 := (hF35 _ (by omega)).trans u2
  replace u3 := (hF35 _ (by omega)).trans u3
  replace hE24 := (hF35 _ (by omega)).trans hE24
  replace hFr := fun j hj => (hF35 j (by omega)).trans (hFr j hj)
  refine v_dup (pc := 38) cx rfl dX9_init_38 ?_
  refine v_callK (pc := 39) cx hR (k_Bk _ _ _ _ (o := o + 7) hE35) mlX9_31 (by decide) rfl (Nat.le_of_ble_eq_true rfl) ⟨Nat.le_of_ble_eq_true rfl, Nat.le_of_ble_eq_true rfl⟩ dX9_init_39 (fun E3 hP => ?_)
  show V X _ (o + 8, 7, 56) _ _ _
  subst hP
  refine v_putfieldF (pc := 42) cx hini fpX9_32 h ⟨rfl, rfl⟩ pf3 dX9_init_42 (fun E42 hE42 hF42 => ?_)
  replace h := hE42
  replace hE7 := (hF42 _ (by omega)).trans hE7
  replace u0 := (hF42 _ (by omega)).trans u0
  replace u1 := (hF42 _ (by omega)).trans u1
  replace u2 := (hF42 _ (by omega)).trans u2
  replace u3 := (hF42 _ (by omega)).trans u3
  replace hE24 := (hF42 _ (by omega)).trans hE24
  replace hE35 := (hF42 _ (by omega)).trans hE35
  replace hFr := fun j hj => (hF42 j (by omega)).trans (hFr j hj)
  refine v_aload_n (pc := 45) cx rfl ga0 dX9_init_45 ?_
  refine v_new (pc := 46) cx hR nwX9_36 ⟨Nat.le_of_ble_eq_true rfl, Nat.le_of_ble_eq_true rfl⟩ dX9_init_46 (fun E46 hE46 hF46 => ?_)
  replace hE46 : E46 (o + 8) = _ := hE46
  replace hF46 : ∀ j, j ≠ o + 8 → E46 j = _ := hF46
  replace h := (hF46 _ (by omega)).trans h
  replace hE7 := (hF46 _ (by omega)).trans hE7
  replace u0 := (hF46 _ (by omega)).trans u0
  replace u1 := (hF46 _ (by omega)).trans u1
  replace u2 := (hF46 _ (by omega)).trans u2
  replace u3 := (hF46 _ (by omega)).trans u3
  replace hE24 := (hF46 _ (by omega)).trans hE24
  replace hE35 := (hF46 _ (by omega)).trans hE35
  replace hFr := fun j hj => (hF46 j (by omega)).trans (hFr j hj)
  refine v_dup (pc := 49) cx rfl dX9_init_49 ?_
  refine v_callK (pc := 50) cx hR (k_Cl _ _ _ _ (o := o + 8) hE46) mlX9_38 (by decide) rfl (Nat.le_of_ble_eq_true rfl) ⟨Nat.le_of_ble_eq_true rfl, Nat.le_of_ble_eq_true rfl⟩ dX9_init_50 (fun E4 hP => ?_)
  show V X _ (o + 9, 8, 58) _ _ _
  obtain ⟨w0, hF⟩ := hP
  replace h := (hF _ (by omega)).trans h
  replace hE7 := (hF _ (by omega)).trans hE7
  replace u0 := (hF _ (by omega)).trans u0
  replace u1 := (hF _ (by omega)).trans u1
  replace u2 := (hF _ (by omega)).trans u2
  replace u3 := (hF _ (by omega)).trans u3
  replace hE24 := (hF _ (by omega)).trans hE24
  replace hE35 := (hF _ (by omega)).trans hE35
  replace hFr := fun j hj => (hF j (by omega)).trans (hFr j hj)
  refine v_putfieldF (pc := 53) cx hini fpX9_39 h ⟨rfl, rfl⟩ pf4 dX9_init_53 (fun E53 hE53 hF53 => ?_)
  replace h := hE53
  replace hE7 := (hF53 _ (by omega)).trans hE7
  replace u0 := (hF53 _ (by omega)).trans u0
  replace u1 := (hF53 _ (by omega)).trans u1
  replace u2 := (hF53 _ (by omega)).trans u2
  replace u3 := (hF53 _ (by omega)).trans u3
  replace hE24 := (hF53 _ (by omega)).trans hE24
  replace hE35 := (hF53 _ (by omega)).trans hE35
  replace w0 := (hF53 _ (by omega)).trans w0
  replace hFr := fun j hj => (hF53 j (by omega)).trans (hFr j hj)
  refine v_aload_n (pc := 56) cx rfl ga0 dX9_init_56 ?_
  refine v_new (pc := 57) cx hR nwX9_43 ⟨Nat.le_of_ble_eq_true rfl, Nat.le_of_ble_eq_true rfl⟩ dX9_init_57 (fun E57 hE57 hF57 => ?_)
  replace hE57 : E57 (o + 9) = _ := hE57
  replace hF57 : ∀ j, j ≠ o + 9 → E57 j = _ := hF57
  replace h := (hF57 _ (by omega)).trans h
  replace hE7 := (hF57 _ (by omega)).trans hE7
  replace u0 := (hF57 _ (by omega)).trans u0
  replace u1 := (hF57 _ (by omega)).trans u1
  replace u2 := (hF57 _ (by omega)).trans u2
  replace u3 := (hF57 _ (by omega)).trans u3
  replace hE24 := (hF57 _ (by omega)).trans hE24
  replace hE35 := (hF57 _ (by omega)).trans hE35
  replace w0 := (hF57 _ (by omega)).trans w0
  replace hFr := fun j hj => (hF57 j (by omega)).trans (hFr j hj)
  refine v_dup (pc := 60) cx rfl dX9_init_60 ?_
  refine v_callK (pc := 61) cx hR (k_Ge _ _ _ _ (o := o + 9) rfl hE57) mlX9_45 (by decide) rfl (Nat.le_of_ble_eq_true rfl) ⟨Nat.le_of_ble_eq_true rfl, Nat.le_of_ble_eq_true rfl⟩ dX9_init_61 (fun E5 hP => ?_)
  show V X _ (o + 12, 11, 67) _ _ _
  obtain ⟨⟨x0, x1, x2⟩, hF⟩ := hP
  replace h := (hF _ (by omega)).trans h
  replace hE7 := (hF _ (by omega)).trans hE7
  replace u0 := (hF _ (by omega)).trans u0
  replace u1 := (hF _ (by omega)).trans u1
  replace u2 := (hF _ (by omega)).trans u2
  replace u3 := (hF _ (by omega)).trans u3
  replace hE24 := (hF _ (by omega)).trans hE24
  replace hE35 := (hF _ (by omega)).trans hE35
  replace w0 := (hF _ (by omega)).trans w0
  replace hFr := fun j hj => (hF j (by omega)).trans (hFr j hj)
  refine v_putfieldF (pc := 64) cx hini fpX9_46 h ⟨rfl, rfl⟩ pf5 dX9_init_64 (fun E64 hE64 hF64 => ?_)
  replace h := hE64
  replace hE7 := (hF64 _ (by omega)).trans hE7
  replace u0 := (hF64 _ (by omega)).trans u0
  replace u1 := (hF64 _ (by omega)).trans u1
  replace u2 := (hF64 _ (by omega)).trans u2
  replace u3 := (hF64 _ (by omega)).trans u3
  replace hE24 := (hF64 _ (by omega)).trans hE24
  replace hE35 := (hF64 _ (by omega)).trans hE35
  replace w0 := (hF64 _ (by omega)).trans w0
  replace x0 := (hF64 _ (by omega)).trans x0
  replace x1 := (hF64 _ (by omega)).trans x1
  replace x2 := (hF64 _ (by omega)).trans x2
  replace hFr := fun j hj => (hF64 j (by omega)).trans (hFr j hj)
  refine v_aload_n (pc := 67) cx rfl ga0 dX9_init_67 ?_
  refine v_new (pc := 68) cx hR nwX9_50 ⟨Nat.le_of_ble_eq_true rfl, Nat.le_of_ble_eq_true rfl⟩ dX9_init_68 (fun E68 hE68 hF68 => ?_)
  replace hE68 : E68 (o + 12) = _ := hE68
  replace hF68 : ∀ j, j ≠ o + 12 → E68 j = _ := hF68
  replace h := (hF68 _ (by omega)).trans h
  replace hE7 := (hF68 _ (by omega)).trans hE7
  replace u0 := (hF68 _ (by omega)).trans u0
  replace u1 := (hF68 _ (by omega)).trans u1
  replace u2 := (hF68 _ (by omega)).trans u2
  replace u3 := (hF68 _ (by omega)).trans u3
  replace hE24 := (hF68 _ (by omega)).trans hE24
  replace hE35 := (hF68 _ (by omega)).trans hE35
  replace w0 := (hF68 _ (by omega)).trans w0
  replace x0 := (hF68 _ (by omega)).trans x0
  replace x1 := (hF68 _ (by omega)).trans x1
  replace x2 := (hF68 _ (by omega)).trans x2
  replace hFr := fun j hj => (hF68 j (by omega)).trans (hFr j hj)
  refine v_dup (pc := 71) cx rfl dX9_init_71 ?_
  refine v_callK (pc := 72) cx hR (k_Mk _ _ _ _ (o := o + 12) rfl hE68) mlX9_52 (by decide) rfl (Nat.le_of_ble_eq_true rfl) ⟨Nat.le_of_ble_eq_true rfl, Nat.le_of_ble_eq_true rfl⟩ dX9_init_72 (fun E6 hP => ?_)
  show V X _ (o + 16, 15, 251) _ _ _
  obtain ⟨⟨y0, y1, y2, y3⟩, hF⟩ := hP
  replace h := (hF _ (by omega)).trans h
  replace hE7 := (hF _ (by omega)).trans hE7
  replace u0 := (hF _ (by omega)).trans u0
  replace u1 := (hF _ (by omega)).trans u1
  replace u2 := (hF _ (by omega)).trans u2
  replace u3 := (hF _ (by omega)).trans u3
  replace hE24 := (hF _ (by omega)).trans hE24
  replace hE35 := (hF _ (by omega)).trans hE35
  replace w0 := (hF _ (by omega)).trans w0
  replace x0 := (hF _ (by omega)).trans x0
  replace x1 := (hF _ (by omega)).trans x1
  replace x2 := (hF _ (by omega)).trans x2
  replace hFr := fun j hj => (hF j (by omega)).trans (hFr j hj)
  refine v_putfieldF (pc := 75) cx hini fpX9_53 h ⟨rfl, rfl⟩ pf6 dX9_init_75 (fun E75 hE75 hF75 => ?_)
  replace h := hE75
  replace hE7 := (hF75 _ (by omega)).trans hE7
  replace u0 := (hF75 _ (by omega)).trans u0
  replace u1 := (hF75 _ (by omega)).trans u1
  replace u2 := (hF75 _ (by omega)).trans u2
  replace u3 := (hF75 _ (by omega)).trans u3
  replace hE24 := (hF75 _ (by omega)).trans hE24
  replace hE35 := (hF75 _ (by omega)).trans hE35
  replace w0 := (hF75 _ (by omega)).trans w0
  replace x0 := (hF75 _ (by omega)).trans x0
  replace x1 := (hF75 _ (by omega)).trans x1
  replace x2 := (hF75 _ (by omega)).trans x2
  replace y0 := (hF75 _ (by omega)).trans y0
  replace y1 := (hF75 _ (by omega)).trans y1
  replace y2 := (hF75 _ (by omega)).trans y2
  replace y3 := (hF75 _ (by omega)).trans y3
  replace hFr := fun j hj => (hF75 j (by omega)).trans (hFr j hj)
  refine v_getstaticN (pc := 78) cx 2 (by decide) gnX9_57 dX9_init_78 ?_
  refine v_aload_n (pc := 81) cx rfl ga0 dX9_init_81 ?_
  refine v_getfield (pc := 82) cx flX9_9 (by assumption) gf0 dX9_init_82 ?_
  refine v_callSV (pc := 85) cx hR (k_copyT _ _ _ _ (i := 2) (by decide) hE7) mlX9_60 (by decide) rfl (Nat.le_of_ble_eq_true rfl) ⟨Nat.le_of_ble_eq_true rfl, Nat.le_of_ble_eq_true rfl⟩ dX9_init_85 (fun E7 hP => ?_)
  show V X _ (o + 16, 15, 251) _ _ _
  obtain ⟨z0, hF⟩ := hP
  replace h := (hF _ (by omega)).trans h
  replace u0 := (hF _ (by omega)).trans u0
  replace u1 := (hF _ (by omega)).trans u1
  replace u2 := (hF _ (by omega)).trans u2
  replace u3 := (hF _ (by omega)).trans u3
  replace hE24 := (hF _ (by omega)).trans hE24
  replace hE35 := (hF _ (by omega)).trans hE35
  replace w0 := (hF _ (by omega)).trans w0
  replace x0 := (hF _ (by omega)).trans x0
  replace x1 := (hF _ (by omega)).trans x1
  replace x2 := (hF _ (by omega)).trans x2
  replace y0 := (hF _ (by omega)).trans y0
  replace y1 := (hF _ (by omega)).trans y1
  replace y2 := (hF _ (by omega)).trans y2
  replace y3 := (hF _ (by omega)).trans y3
  replace hFr := fun j hj => (hF j (by omega)).trans (hFr j hj)
  refine v_return (pc := 88) cx hI ?_ dX9_init_88
  exact ⟨⟨_, 0, _, _, _, 0, 0, (0, 0, 0, 0, 0, 0), 500, 0, 0, _, _, 0, _, _, _, 0, 0, ⟨h, z0, ⟨u0, u1, u2, u3⟩, hE24, hE35, w0, ⟨x0, x1, x2⟩, ⟨y0, y1, y2, y3⟩⟩, by decide, rfl, by decide, rfl, ⟨rfl, rfl, rfl, rfl, rfl, rfl⟩, rfl, rfl, ⟨rfl, by decide⟩, ⟨rfl, by decide⟩, rfl, rfl⟩, hFr⟩
end
section
set_option maxRecDepth 100000 in
set_option maxHeartbeats 4000000 in
theorem k_Hi (lc : Launch) (G : Gc) (E : Wd) (nh : Nat) {o : Nat} (hn : nh = o + 1) (h : E o = some (.inr (4, [.null, .int (iI 0)]))) : CV lc G 3 yX4_init cX4_init 2 [.ref (gb G + o)] E nh 81 1305 (fun E' => isH G E' o [] ∧ Out E E' o (o + 82)) := by
  refine CV.mk (by decide +kernel) rfl (Nat.le_of_ble_eq_true rfl) ?_
  intro X hG hL cx hR hI hini
  subst hG; subst hL
  have hini := hini rfl
  show V X E (nh, 0, 0) 0 [some (.ref (gb (fG X) + o)), none] []
  subst hn
  have hFr : Out E E o (o + 82) := fun _ _ => rfl
  have loop : ∀ (q k : Nat) (g : Nat → Option Nat) (E' : Wd), k ≤ 5 → 5 - k < q → E' o = some (.inr (4, [.ref (gb (fG X) + (o + 1)), .int (iI 0)])) → E' (o + 1) = some (AS (fG X) 5 g) → (∀ j, j < k → g j = some (o + 2 + 16 * j)) → (∀ j, j < k → isS (fG X) E' (o + 2 + 16 * j) σ0) → Out E E' o (o + 82) → V X E' (o + 2 + 16 * k, 1 + 16 * k, 5 + 260 * k) 14 [some (.ref (gb (fG X) + o)), some (.int (iI (k : Int)))] [] := by
    intro q
    induction q with
    | zero => intro k g E' h1 h2; omega
    | succ q ih =>
      intro k g E' hk hq h hA hg hS hFr
      refine v_iload_n (pc := 14) cx rfl ga1 dX4_init_14 ?_
      refine v_iconst (pc := 15) cx dX4_init_15 ?_
      refine v_icmp_ge (pc := 16) cx 38 dX4_init_16 rfl (by omega) (fun c16 => ?_) (fun c16 => ?_)
      · have ek : k = 5 := by omega
        subst ek
        refine v_asExt (g' := fun j => some (o + 2 + 16 * j)) hA hg (fun E1 hE1 hF1 => ?_)
        show V X E1 (o + 1 + 81, 81, 1305) _ _ _
        refine v_return (pc := 38) cx hI ?_ dX4_init_38
        refine ⟨⟨fun j => o + 2 + 16 * j, (hF1 _ (by omega)).trans h, hE1, rfl, by decide, fun j hj => ⟨j, hj, rfl⟩, (fun i j hi hj e => by have e : o + 2 + 16 * i = o + 2 + 16 * j := e; omega), (fun j hj => ⟨σ0, (show isS (fG X) E1 (o + 2 + 16 * j) σ0 from (hS j hj).out (x := o + 1) (y := o + 2) (fun i hi => hF1 i (by omega)) (by omega))⟩), (fun j hj => by cases hj)⟩, fun j hj => (hF1 j (by omega)).trans (hFr j hj)⟩
      · refine v_aload_n (pc := 19) cx rfl ga0 dX4_init_19 ?_
        refine v_getfield (pc := 20) cx flX4_11 (by assumption) gf0 dX4_init_20 ?_
        refine v_iload_n (pc := 23) cx rfl ga1 dX4_init_23 ?_
        refine v_new (pc := 24) cx hR nwX4_9 ⟨by show 1 + 16 * k + 1 ≤ 81; omega, by show 5 + 260 * k + 9 ≤ 1305; omega⟩ dX4_init_24 (fun E24 hE24 hF24 => ?_)
        replace hE24 : E24 (o + 2 + 16 * k) = _ := hE24
        replace hF24 : ∀ j, j ≠ o + 2 + 16 * k → E24 j = _ := hF24
        replace h := (hF24 _ (by omega)).trans h
        replace hA := (hF24 _ (by omega)).trans hA
        replace hFr := fun j hj => (hF24 j (by omega)).trans (hFr j hj)
        refine v_dup (pc := 27) cx rfl dX4_init_27 ?_
        refine v_callK (pc := 28) cx hR (k_St _ _ _ _ (o := o + 2 + 16 * k) rfl hE24) mlX4_17 (by decide) rfl (Nat.le_of_ble_eq_true rfl) ⟨by show 1 + 16 * k + 1 + 15 ≤ 81; omega, by show 5 + 260 * k + 9 + 251 ≤ 1305; omega⟩ dX4_init_28 (fun E2 hP => ?_)
        obtain ⟨hS2, hF⟩ := hP
        replace h := (hF _ (by omega)).trans h
        replace hA := (hF _ (by omega)).trans hA
        replace hFr := fun j hj => (hF j (by omega)).trans (hFr j hj)
        replace hS : ∀ j, j < k → isS (fG X) E2 (o + 2 + 16 * j) σ0 := fun j hj => ((hS j hj).out (x := o + 2 + 16 * k) (y := o + 3 + 16 * k) (fun i hi => hF24 i (by omega)) (by omega)).out hF (by omega)
        obtain ⟨fs, hfs⟩ := hS2.obj
        refine v_aastore (pc := 31) cx (k) hA (by omega) hfs dX4_init_31 (fun E31 hE31 hF31 => ?_)
        replace h := (hF31 _ (by omega)).trans h
        replace hFr := fun j hj => (hF31 j (by omega)).trans (hFr j hj)
        replace hA := hE31
        refine v_iinc (pc := 32) cx ga1 (sa1 rfl) dX4_init_32 ?_
        refine v_goto (pc := 35) cx 14 dX4_init_35 rfl ?_
        have kk := ih (k + 1) _ E31 (by omega) (by omega) h hA (fun j hj => ?_) (fun j hj => ?_) hFr
        · rw [show o + 2 + 16 * (k + 1) = o + 2 + 16 * k + 1 + 15 by omega, show 1 + 16 * (k + 1) = 1 + 16 * k + 1 + 15 by omega, show 5 + 260 * (k + 1) = 5 + 260 * k + 9 + 251 by omega] at kk
          exact kk
        · rw [upO_a]
          by_cases e : j = k
          · rw [if_pos e, e]
          · rw [if_neg e]
            exact hg j (by omega)
        · by_cases e : j = k
          · rw [e]
            exact hS2.out (x := o + 1) (y := o + 2) (fun i hi => hF31 i (by omega)) (by omega)
          · exact (hS j (by omega)).out (x := o + 1) (y := o + 2) (fun i hi => hF31 i (by omega)) (by omega)
  refine v_aload_n (pc := 0) cx rfl ga0 dX4_init_0 ?_
  refine v_objInit (pc := 1) cx hR (by decide) oiX4_3 oi_i oi_c (Nat.le_of_ble_eq_true rfl) dX4_init_1 ?_
  refine v_aload_n (pc := 4) cx rfl ga0 dX4_init_4 ?_
  refine v_iconst (pc := 5) cx dX4_init_5 ?_
  refine v_newstates (pc := 6) cx 5 hR (tbm 225 (by decide +kernel) rfl) ⟨rfl, by decide⟩ ⟨Nat.le_of_ble_eq_true rfl, Nat.le_of_ble_eq_true rfl⟩ dX4_init_6 (fun E6 hE6 hF6 => ?_)
  replace hE6 : E6 (o + 1) = _ := hE6
  replace hF6 : ∀ j, j ≠ o + 1 → E6 j = _ := hF6
  replace h := (hF6 _ (by omega)).trans h
  replace hFr := fun j hj => (hF6 j (by omega)).trans (hFr j hj)
  refine v_putfieldF (pc := 9) cx hini fpX4_11 h ⟨rfl, rfl⟩ pf0 dX4_init_9 (fun E9 hE9 hF9 => ?_)
  replace h := hE9
  replace hFr := fun j hj => (hF9 j (by omega)).trans (hFr j hj)
  replace hE6 := (hF9 _ (by omega)).trans hE6
  refine v_iconst (pc := 12) cx dX4_init_12 ?_
  refine v_istore_n (pc := 13) cx rfl (sa1 rfl) dX4_init_13 ?_
  exact loop 6 0 _ _ (by omega) (by omega) h hE6 (fun j hj => by omega) (fun j hj => by omega) hFr
set_option maxRecDepth 100000 in
set_option maxHeartbeats 4000000 in
theorem k_X (lc : Launch) (G : Gc) (E : Wd) (nh : Nat) (hn : nh = 1) (h : E 0 = some (.inr (11, [.null, .null, .null, .null, .null, .null]))) : CV lc G 4 yX11_init cX11_init 1 [.ref (gb G + 0)] E nh 123 3975 (fun E' => isX G E' (σ0, [], []) ∧ Out E E' 0 124) := by
  refine CV.mk (by decide +kernel) rfl (Nat.le_of_ble_eq_true rfl) ?_
  intro X hG hL cx hR hI hini
  subst hG; subst hL
  have hini := hini rfl
  show V X E (nh, 0, 0) 0 [some (.ref (gb (fG X) + 0))] []
  subst hn
  have hFr : Out E E 0 124 := fun _ _ => rfl
  refine v_aload_n (pc := 0) cx rfl ga0 dX11_init_0 ?_
  refine v_objInit (pc := 1) cx hR (by decide) oiX11_1 oi_i oi_c (Nat.le_of_ble_eq_true rfl) dX11_init_1 ?_
  refine v_aload_n (pc := 4) cx rfl ga0 dX11_init_4 ?_
  refine v_new (pc := 5) cx hR nwX11_7 ⟨Nat.le_of_ble_eq_true rfl, Nat.le_of_ble_eq_true rfl⟩ dX11_init_5 (fun E5 hE5 hF5 => ?_)
  replace hE5 : E5 (1) = _ := hE5
  replace hF5 : ∀ j, j ≠ 1 → E5 j = _ := hF5
  replace h := (hF5 _ (by omega)).trans h
  replace hFr := fun j hj => (hF5 j (by omega)).trans (hFr j hj)
  refine v_dup (pc := 8) cx rfl dX11_init_8 ?_
  refine v_callK (pc := 9) cx hR (k_St _ _ _ _ (o := 1) rfl hE5) mlX11_9 (by decide) rfl (Nat.le_of_ble_eq_true rfl) ⟨Nat.le_of_ble_eq_true rfl, Nat.le_of_ble_eq_true rfl⟩ dX11_init_9 (fun E1 hP => ?_)
  show V X _ (17, 16, 260) _ _ _
  obtain ⟨x1, hF⟩ := hP
  replace h := (hF _ (by omega)).trans h
  replace hFr := fun j hj => (hF j (by omega)).trans (hFr j hj)
  refine v_putfieldF (pc := 12) cx hini fpX11_10 h ⟨rfl, rfl⟩ pf0 dX11_init_12 (fun E12 hE12 hF12 => ?_)
  replace h := hE12
  replace hFr := fun j hj => (hF12 j (by omega)).trans (hFr j hj)
  refine v_aload_n (pc := 15) cx rfl ga0 dX11_init_15 ?_
  refine v_new (pc := 16) cx hR nwX11_7 ⟨Nat.le_of_ble_eq_true rfl, Nat.le_of_ble_eq_true rfl⟩ dX11_init_16 (fun E16 hE16 hF16 => ?_)
  replace hE16 : E16 (17) = _ := hE16
  replace hF16 : ∀ j, j ≠ 17 → E16 j = _ := hF16
  replace h := (hF16 _ (by omega)).trans h
  replace hFr := fun j hj => (hF16 j (by omega)).trans (hFr j hj)
  refine v_dup (pc := 19) cx rfl dX11_init_19 ?_
  replace x1 := (x1.out (x := 0) (y := 1) (fun j hj => hF12 j (by omega)) (by omega)).out (x := 17) (y := 18) (fun j hj => hF16 j (by omega)) (by omega)
  refine v_callK (pc := 20) cx hR (k_St _ _ _ _ (o := 17) rfl hE16) mlX11_9 (by decide) rfl (Nat.le_of_ble_eq_true rfl) ⟨Nat.le_of_ble_eq_true rfl, Nat.le_of_ble_eq_true rfl⟩ dX11_init_20 (fun E2 hP => ?_)
  show V X _ (33, 32, 520) _ _ _
  obtain ⟨x17, hF⟩ := hP
  replace h := (hF _ (by omega)).trans h
  replace hFr := fun j hj => (hF j (by omega)).trans (hFr j hj)
  replace x1 := x1.out (hF) (by omega)
  refine v_putfieldF (pc := 23) cx hini fpX11_16 h ⟨rfl, rfl⟩ pf1 dX11_init_23 (fun E23 hE23 hF23 => ?_)
  replace h := hE23
  replace hFr := fun j hj => (hF23 j (by omega)).trans (hFr j hj)
  refine v_aload_n (pc := 26) cx rfl ga0 dX11_init_26 ?_
  refine v_new (pc := 27) cx hR nwX11_19 ⟨Nat.le_of_ble_eq_true rfl, Nat.le_of_ble_eq_true rfl⟩ dX11_init_27 (fun E27 hE27 hF27 => ?_)
  replace hE27 : E27 (33) = _ := hE27
  replace hF27 : ∀ j, j ≠ 33 → E27 j = _ := hF27
  replace h := (hF27 _ (by omega)).trans h
  replace hFr := fun j hj => (hF27 j (by omega)).trans (hFr j hj)
  refine v_dup (pc := 30) cx rfl dX11_init_30 ?_
  replace x1 := (x1.out (x := 0) (y := 1) (fun j hj => hF23 j (by omega)) (by omega)).out (x := 33) (y := 34) (fun j hj => hF27 j (by omega)) (by omega)
  replace x17 := (x17.out (x := 0) (y := 1) (fun j hj => hF23 j (by omega)) (by omega)).out (x := 33) (y := 34) (fun j hj => hF27 j (by omega)) (by omega)
  refine v_callK (pc := 31) cx hR (k_Hi _ _ _ _ (o := 33) rfl hE27) mlX11_21 (by decide) rfl (Nat.le_of_ble_eq_true rfl) ⟨Nat.le_of_ble_eq_true rfl, Nat.le_of_ble_eq_true rfl⟩ dX11_init_31 (fun E3 hP => ?_)
  show V X _ (115, 114, 1827) _ _ _
  obtain ⟨x33, hF⟩ := hP
  replace h := (hF _ (by omega)).trans h
  replace hFr := fun j hj => (hF j (by omega)).trans (hFr j hj)
  replace x1 := x1.out (hF) (by omega)
  replace x17 := x17.out (hF) (by omega)
  refine v_putfieldF (pc := 34) cx hini fpX11_22 h ⟨rfl, rfl⟩ pf2 dX11_init_34 (fun E34 hE34 hF34 => ?_)
  replace h := hE34
  replace hFr := fun j hj => (hF34 j (by omega)).trans (hFr j hj)
  refine v_aload_n (pc := 37) cx rfl ga0 dX11_init_37 ?_
  refine v_new (pc := 38) cx hR nwX11_26 ⟨Nat.le_of_ble_eq_true rfl, Nat.le_of_ble_eq_true rfl⟩ dX11_init_38 (fun E38 hE38 hF38 => ?_)
  replace hE38 : E38 (115) = _ := hE38
  replace hF38 : ∀ j, j ≠ 115 → E38 j = _ := hF38
  replace h := (hF38 _ (by omega)).trans h
  replace hFr := fun j hj => (hF38 j (by omega)).trans (hFr j hj)
  refine v_dup (pc := 41) cx rfl dX11_init_41 ?_
  replace x1 := (x1.out (x := 0) (y := 1) (fun j hj => hF34 j (by omega)) (by omega)).out (x := 115) (y := 116) (fun j hj => hF38 j (by omega)) (by omega)
  replace x17 := (x17.out (x := 0) (y := 1) (fun j hj => hF34 j (by omega)) (by omega)).out (x := 115) (y := 116) (fun j hj => hF38 j (by omega)) (by omega)
  replace x33 := (x33.out (x := 0) (y := 1) (fun j hj => hF34 j (by omega)) (by omega)).out (x := 115) (y := 116) (fun j hj => hF38 j (by omega)) (by omega)
  refine v_callK (pc := 42) cx hR (k_Ol _ _ _ _ (o := 115) rfl hE38) mlX11_28 (by decide) rfl (Nat.le_of_ble_eq_true rfl) ⟨Nat.le_of_ble_eq_true rfl, Nat.le_of_ble_eq_true rfl⟩ dX11_init_42 (fun E4 hP => ?_)
  show V X _ (118, 117, 3830) _ _ _
  obtain ⟨x115, hF⟩ := hP
  replace h := (hF _ (by omega)).trans h
  replace hFr := fun j hj => (hF j (by omega)).trans (hFr j hj)
  replace x1 := x1.out (hF) (by omega)
  replace x17 := x17.out (hF) (by omega)
  replace x33 := x33.out (hF) (by omega)
  refine v_putfieldF (pc := 45) cx hini fpX11_29 h ⟨rfl, rfl⟩ pf3 dX11_init_45 (fun E45 hE45 hF45 => ?_)
  replace h := hE45
  replace hFr := fun j hj => (hF45 j (by omega)).trans (hFr j hj)
  refine v_aload_n (pc := 48) cx rfl ga0 dX11_init_48 ?_
  refine v_new (pc := 49) cx hR nwX11_33 ⟨Nat.le_of_ble_eq_true rfl, Nat.le_of_ble_eq_true rfl⟩ dX11_init_49 (fun E49 hE49 hF49 => ?_)
  replace hE49 : E49 (118) = _ := hE49
  replace hF49 : ∀ j, j ≠ 118 → E49 j = _ := hF49
  replace h := (hF49 _ (by omega)).trans h
  replace hFr := fun j hj => (hF49 j (by omega)).trans (hFr j hj)
  refine v_dup (pc := 52) cx rfl dX11_init_52 ?_
  replace x1 := (x1.out (x := 0) (y := 1) (fun j hj => hF45 j (by omega)) (by omega)).out (x := 118) (y := 119) (fun j hj => hF49 j (by omega)) (by omega)
  replace x17 := (x17.out (x := 0) (y := 1) (fun j hj => hF45 j (by omega)) (by omega)).out (x := 118) (y := 119) (fun j hj => hF49 j (by omega)) (by omega)
  replace x33 := (x33.out (x := 0) (y := 1) (fun j hj => hF45 j (by omega)) (by omega)).out (x := 118) (y := 119) (fun j hj => hF49 j (by omega)) (by omega)
  replace x115 := (x115.out (x := 0) (y := 1) (fun j hj => hF45 j (by omega)) (by omega)).out (x := 118) (y := 119) (fun j hj => hF49 j (by omega)) (by omega)
  refine v_callK (pc := 53) cx hR (k_Tx _ _ _ _ (o := 118) rfl hE49) mlX11_35 (by decide) rfl (Nat.le_of_ble_eq_true rfl) ⟨Nat.le_of_ble_eq_true rfl, Nat.le_of_ble_eq_true rfl⟩ dX11_init_53 (fun E5 hP => ?_)
  show V X _ (120, 119, 3932) _ _ _
  obtain ⟨x118, hF⟩ := hP
  replace h := (hF _ (by omega)).trans h
  replace hFr := fun j hj => (hF j (by omega)).trans (hFr j hj)
  replace x1 := x1.out (hF) (by omega)
  replace x17 := x17.out (hF) (by omega)
  replace x33 := x33.out (hF) (by omega)
  replace x115 := x115.out (hF) (by omega)
  refine v_putfieldF (pc := 56) cx hini fpX11_36 h ⟨rfl, rfl⟩ pf4 dX11_init_56 (fun E56 hE56 hF56 => ?_)
  replace h := hE56
  replace hFr := fun j hj => (hF56 j (by omega)).trans (hFr j hj)
  refine v_aload_n (pc := 59) cx rfl ga0 dX11_init_59 ?_
  refine v_new (pc := 60) cx hR nwX11_40 ⟨Nat.le_of_ble_eq_true rfl, Nat.le_of_ble_eq_true rfl⟩ dX11_init_60 (fun E60 hE60 hF60 => ?_)
  replace hE60 : E60 (120) = _ := hE60
  replace hF60 : ∀ j, j ≠ 120 → E60 j = _ := hF60
  replace h := (hF60 _ (by omega)).trans h
  replace hFr := fun j hj => (hF60 j (by omega)).trans (hFr j hj)
  refine v_dup (pc := 63) cx rfl dX11_init_63 ?_
  replace x1 := (x1.out (x := 0) (y := 1) (fun j hj => hF56 j (by omega)) (by omega)).out (x := 120) (y := 121) (fun j hj => hF60 j (by omega)) (by omega)
  replace x17 := (x17.out (x := 0) (y := 1) (fun j hj => hF56 j (by omega)) (by omega)).out (x := 120) (y := 121) (fun j hj => hF60 j (by omega)) (by omega)
  replace x33 := (x33.out (x := 0) (y := 1) (fun j hj => hF56 j (by omega)) (by omega)).out (x := 120) (y := 121) (fun j hj => hF60 j (by omega)) (by omega)
  replace x115 := (x115.out (x := 0) (y := 1) (fun j hj => hF56 j (by omega)) (by omega)).out (x := 120) (y := 121) (fun j hj => hF60 j (by omega)) (by omega)
  replace x118 := (x118.out (x := 0) (y := 1) (fun j hj => hF56 j (by omega)) (by omega)).out (x := 120) (y := 121) (fun j hj => hF60 j (by omega)) (by omega)
  refine v_callK (pc := 64) cx hR (k_Rd _ _ _ _ (o := 120) rfl hE60) mlX11_42 (by decide) rfl (Nat.le_of_ble_eq_true rfl) ⟨Nat.le_of_ble_eq_true rfl, Nat.le_of_ble_eq_true rfl⟩ dX11_init_64 (fun E6 hP => ?_)
  show V X _ (124, 123, 3975) _ _ _
  obtain ⟨x120, hF⟩ := hP
  replace h := (hF _ (by omega)).trans h
  replace hFr := fun j hj => (hF j (by omega)).trans (hFr j hj)
  replace x1 := x1.out (hF) (by omega)
  replace x17 := x17.out (hF) (by omega)
  replace x33 := x33.out (hF) (by omega)
  replace x115 := x115.out (hF) (by omega)
  replace x118 := x118.out (hF) (by omega)
  refine v_putfieldF (pc := 67) cx hini fpX11_43 h ⟨rfl, rfl⟩ pf5 dX11_init_67 (fun E67 hE67 hF67 => ?_)
  replace h := hE67
  replace hFr := fun j hj => (hF67 j (by omega)).trans (hFr j hj)
  refine v_return (pc := 70) cx hI ?_ dX11_init_70
  have hO : Out E6 E67 0 1 := fun j hj => hF67 j (by omega)
  replace x1 := x1.out (hO) (by omega)
  replace x17 := x17.out (hO) (by omega)
  replace x33 := x33.out (hO) (by omega)
  replace x115 := x115.out (hO) (by omega)
  replace x118 := x118.out (hO) (by omega)
  replace x120 := x120.out (hO) (by omega)
  exact ⟨⟨h, x1, ⟨σ0, x17⟩, x33, ⟨_, _, _, x115⟩, x118, ⟨_, _, _, _, _, _, _, x120⟩⟩, hFr⟩
end
section
/-! THE CLAIM OUT OF ONE WALK OF THE LAW'S BODY. Your part is whole_start (and what it stands on); all else here is the same for every law, but numbers. -/
def R_law : String := "RainRecorderLaw"
def lw_P (b : Addr) (xs : List Int32) (args : Array Value) (s : State) : Prop := args = #[.ref b] ∧ s.IntsAt b xs ∧ xs.length ≤ 260 ∧ (Jvm.Cond.and given_1 narrow_1).before args s = true
def lw_Q (_ : Array Value) (s : State) (o : Outcome) (t : State) : Prop := o = .returned (some (.int 1)) ∧ Framed s o t [] 600000 7302250
def lw_Z (below : List Frame) (a : Array Value) (s : State) : State → Prop := fun t => ∃ o, t.status = .running ∧ Ended t below o ∧ lw_Q a s o t
/-- the law's own end, with 1 on the stack, nothing written that was there before, its room as the claim has it -/
theorem lw_ret {p : Program} {l : Launch} {e : Env} {s : State} {m : MethodId} {below : List Frame} {meth : Method} {c : Code} {b : Nat} (hx : p.tables.exec = Jvm.exec) (hb : c.code = code) (hr : meth.sig.returnType = ret) (hlocks : meth.locks = false) {pc : Nat} {H : Heap} {ls : Array Slot} (hdg : decode code pc = .ok (.ireturn, 1)) : W p l e room_1 s m #[Value.ref b] below meth c H [] 600000 7302250 (lw_Z below #[Value.ref b] s) (F0 m pc ls [.int 1]) := by
  intro T hT X
  obtain ⟨fs, hret, hrun, hended, hW, hframe⟩ := X.leave (v := some (.int 1)) (hlocks := hlocks) (fun h => by rw [hr] at h; cases h)
  have hmeth' : T.vm.method? m = some meth := X.method'
  refine ⟨T.setFrames fs, ?_, .returned (some (.int 1)), hrun, hended, rfl, ⟨_, rfl⟩, hW, hframe⟩
  jvm_step X.here [X.here.top, hx, hb, hdg, hmeth', hr, ret, narrow_b1]
  (try refine ⟨rfl, ?_⟩); (try refine ⟨rfl, ?_⟩)
  first | (intro acts; rw [hret _ acts rfl rfl rfl]) | rw [hret _ _ rfl rfl rfl]
  exact Steps.refl _
/-- what holds at the law's entry: the machine, the code, the tables' words (any of lw_tbl by 'hts w (by decide +kernel)'), the script of L ints xs at the cell b, what the Statement gives of the start (any of its parts by flat_of_before) -/
def lw_At (p : Program) (s : State) (m : MethodId) (meth : Method) (c : Code) (b L : Nat) (xs : Nat → Int32) : Prop :=
  p.tables.exec = Jvm.exec ∧ c.code = code ∧ meth.sig.returnType = ret ∧ c.maxLocals = 12 ∧ s.vm.findClass R_law = some m.cls ∧ (∀ w ∈ lw_tbl, w.before #[Value.ref b] s = true) ∧ va_X b L xs s s.heap ∧ b < s.heap.size ∧ meth.locks = false ∧ (Jvm.Cond.and given_1 narrow_1).before #[Value.ref b] s = true
end
section
/-! what the law asks, over the abstract state -/
def okL (L : List (Int × Int × Int)) : Prop := ∀ i j, i < j → j < L.length → k1 L i ≤ k1 L j
def okP (σ : Sg) : Prop := σ.1 2 ≤ 500 ∧ okL σ.2.1 ∧ (∀ x ∈ σ.2.1, σ.1 0 < x.1 + x.2.1) ∧ (∀ x ∈ σ.2.2.2, 0 ≤ x.2.2 ∧ x.2.2 ≤ 5000) ∧ σ.2.2.1 = [] ∧ σ.1 16 = 360
theorem k_get {L : List (Int × Int × Int)} {i : Nat} (h : i < L.length) : k1 L i = L[i].1 ∧ k2 L i = L[i].2.1 ∧ k3 L i = L[i].2.2 := by
  unfold k1 k2 k3
  rw [List.getD_eq_getElem?_getD, List.getElem?_eq_getElem h]
  exact ⟨rfl, rfl, rfl⟩
theorem k_mem {L : List (Int × Int × Int)} {i : Nat} (h : i < L.length) : (k1 L i, k2 L i, k3 L i) ∈ L := by
  obtain ⟨a, b, c⟩ := k_get h
  rw [a, b, c]
  exact List.getElem_mem h
theorem okL_pw {L : List (Int × Int × Int)} : okL L ↔ L.Pairwise (fun x y => x.1 ≤ y.1) := by
  rw [List.pairwise_iff_getElem]
  constructor
  · intro h i j hi hj hij
    have := h i j hij hj
    rw [(k_get hi).1, (k_get hj).1] at this
    exact this
  · intro h i j hij hj
    have hi : i < L.length := by omega
    rw [(k_get hi).1, (k_get hj).1]
    exact h i j hi hj hij
theorem okL_filter {L : List (Int × Int × Int)} (p : Int × Int × Int → Bool) (h : okL L) : okL (L.filter p) := okL_pw.mpr (List.Pairwise.filter p (okL_pw.mp h))
theorem insP_spec {b : Nat → Int} {x : Int} : ∀ m, (∀ j, insP b x m ≤ j → j < m → x < b j) ∧ (0 < insP b x m → b (insP b x m - 1) ≤ x) := by
  intro m
  induction m with
  | zero => exact ⟨fun j h1 h2 => by omega, fun h => by simp [insP] at h⟩
  | succ m ih =>
    simp only [insP]
    split
    · rename_i c
      refine ⟨fun j h1 h2 => ?_, ih.2⟩
      by_cases e : j = m
      · subst e; exact c
      · exact ih.1 j h1 (by omega)
    · rename_i c
      exact ⟨fun j h1 h2 => by omega, fun _ => by rw [Nat.add_sub_cancel]; omega⟩
theorem k1_ins {L : List (Int × Int × Int)} {x : Int × Int × Int} {j : Nat} (hj : j < L.length + 1) : k1 (insL L x) j = insF (k1 L) (insI L x.1) L.length x.1 j := (k_lst hj).1
theorem k3_ins {L : List (Int × Int × Int)} {x : Int × Int × Int} {j : Nat} (hj : j < L.length + 1) : k3 (insL L x) j = insF (k3 L) (insI L x.1) L.length x.2.2 j := (k_lst hj).2.2
theorem okL_ins {L : List (Int × Int × Int)} {x : Int × Int × Int} (h : okL L) : okL (insL L x) := by
  intro i j hij hj
  rw [insL_len] at hj
  obtain ⟨p1, p2⟩ := insP_spec (b := k1 L) (x := x.1) L.length
  have hp := insP_le (k1 L) x.1 L.length
  rw [k1_ins (show i < L.length + 1 by omega), k1_ins hj]
  unfold insI
  generalize insP (k1 L) x.1 L.length = p at *
  unfold insF
  by_cases a1 : j < p
  · rw [if_pos (show i < p by omega), if_pos a1]; exact h i j hij (by omega)
  · rw [if_neg a1]
    by_cases a2 : j = p
    · rw [if_pos a2, if_pos (show i < p by omega)]
      have q := p2 (by omega)
      by_cases e : i = p - 1
      · rw [e]; exact q
      · have := h i (p - 1) (by omega) (by omega)
        omega
    · rw [if_neg a2, if_pos (show j ≤ L.length by omega)]
      by_cases b1 : i < p
      · rw [if_pos b1]
        by_cases e : i = j - 1
        · rw [e]; exact Int.le_refl _
        · exact h i (j - 1) (by omega) (by omega)
      · rw [if_neg b1]
        by_cases b2 : i = p
        · rw [if_pos b2]
          have := p1 (j - 1) (by omega) (by omega)
          omega
        · rw [if_neg b2, if_pos (show i ≤ L.length by omega)]
          exact h (i - 1) (j - 1) (by omega) (by omega)
theorem mem_addMk {L : List (Int × Int × Int)} {x y : Int × Int × Int} (h : x ∈ addMk L y) : x = y ∨ x ∈ L := by
  unfold addMk at h
  rcases List.mem_append.mp h with h | h
  · right
    split at h
    · exact List.mem_of_mem_tail h
    · exact h
  · left
    exact List.mem_singleton.mp h
theorem bS_c {rain d cap tt dg : Int} {B : BT} (h : B.1 ≤ 500) (hc : cap ≤ 500) : (bS rain d cap tt dg B).1 ≤ 500 := by
  unfold bS
  split
  · exact h
  · split
    · exact (by decide : (0 : Int) ≤ 500)
    · simp only
      omega
theorem bR_c {rain d cap dg : Int} {B : BT} (h : 0 ≤ B.1 ∧ B.1 ≤ 500) (hr : 0 ≤ rain ∧ rain ≤ 2400) (hc : 20 ≤ cap) (hd : 0 ≤ dg) : bR rain d cap dg B = -1 ∨ (0 ≤ bR rain d cap dg B ∧ bR rain d cap dg B ≤ 5000) := by
  have hg : 0 ≤ bGone B.1 rain d dg := by
    unfold bGone
    split <;> omega
  unfold bR
  split
  · exact Or.inl rfl
  · split
    · right; omega
    · exact Or.inl rfl
theorem okP_tick {σ : Sg} (h : ok σ) (hp : okP σ) : okP (tick σ) := by
  obtain ⟨h1, h2, h3, h4, h5⟩ := h
  obtain ⟨p1, p2, p3, p4, p5, p6⟩ := hp
  refine ⟨?_, okL_filter _ p2, fun x hx => ?_, ?_, p5, p6⟩
  · show (tkB σ.1 (tkRain σ)).1 ≤ 500
    have := h2.1
    exact bS_c p1 this.2
  · have := (List.mem_filter.mp hx).2
    show σ.1 0 + 1 < x.1 + x.2.1
    simpa using this
  · show ∀ x ∈ (if tkTip σ = -1 then σ.2.2.2 else addMk σ.2.2.2 (σ.1 0, plG σ.2.2.1 (σ.1 5) (σ.1 16), tkTip σ)), 0 ≤ x.2.2 ∧ x.2.2 ≤ 5000
    split
    · exact p4
    · rename_i c
      intro x hx
      rcases mem_addMk hx with rfl | hx
      · show 0 ≤ tkTip σ ∧ tkTip σ ≤ 5000
        have hr := tkRain_bd (σ := σ) ⟨h1, h2, h3, h4, h5⟩
        have f1 := fT_bd (cap := σ.1 13) (c := σ.1 1) hr.1
        have : tkTip σ = -1 ∨ (0 ≤ tkTip σ ∧ tkTip σ ≤ 5000) := bR_c (B := (σ.1 2, σ.1 3, σ.1 7, σ.1 8, σ.1 9, 0)) ⟨h1.2.2.1, p1⟩ (by omega) h2.1.1 h2.2.2.2.2.1.1
        omega
      · exact p4 x hx
theorem okP_ticks {σ : Sg} (h : ok σ) (hp : okP σ) : ∀ k : Nat, σ.1 0 + k ≤ 5000 → okP (ticks σ k) := by
  intro k
  induction k with
  | zero => intro _; exact hp
  | succ k ih =>
    intro hk
    exact okP_tick (ok_ticks h k (by omega)) (ih (by omega))
theorem okP_add {Ψ : Fs} {b l r : Int} (h : okP Ψ.1) : okP (sAdd Ψ b l r).1 := by
  unfold sAdd
  split
  · exact h
  · split
    · exact h
    · obtain ⟨p1, p2, p3, p4, p5, p6⟩ := h
      refine ⟨p1, okL_ins p2, fun x hx => ?_, p4, p5, p6⟩
      show Ψ.1.1 0 < x.1 + x.2.1
      rcases insL_mem x hx with rfl | hx
      · simp only; omega
      · exact p3 x hx
theorem sSet_get {Ψ : Fs} {w x : Int} {j : Nat} (h : j ≠ 11 + w.toNat) : (sSet Ψ w x).1.1 j = Ψ.1.1 j := by
  unfold sSet
  split
  · rfl
  · exact upI_n h
theorem sSet_2 {Ψ : Fs} {w x : Int} : (sSet Ψ w x).1.2 = Ψ.1.2 := by
  unfold sSet
  split <;> rfl
theorem sSet_in {Ψ : Fs} {w x : Int} (h : ¬ (¬ (0 ≤ w ∧ w ≤ 7) ∨ ¬ (tbV 0 w.toNat ≤ x ∧ x ≤ tbV 1 w.toNat))) : vSet Ψ w x = Ψ.1.1 (11 + w.toNat) ∧ (sSet Ψ w x).1.1 (11 + w.toNat) = x ∧ 0 < (sSet Ψ w x).2.1.length := by
  unfold vSet sSet
  rw [if_neg h, if_neg h]
  refine ⟨rfl, upI_s, ?_⟩
  show 0 < (keepH Ψ.2.1 Ψ.1).length
  unfold keepH
  rw [List.length_append, List.length_singleton]
  omega
theorem okP_set {Ψ : Fs} {w x : Int} (hw : 0 ≤ w) (hw5 : w ≠ 5) (h : okP Ψ.1) : okP (sSet Ψ w x).1 := by
  obtain ⟨p1, p2, p3, p4, p5, p6⟩ := h
  refine ⟨?_, ?_, ?_, ?_, ?_, ?_⟩
  · rw [sSet_get (by omega)]; exact p1
  · rw [sSet_2]; exact p2
  · rw [sSet_2, sSet_get (by omega)]; exact p3
  · rw [sSet_2]; exact p4
  · rw [sSet_2]; exact p5
  · rw [sSet_get (by omega)]; exact p6
theorem okP_win {Ψ : Fs} (h : okP Ψ.1) : okP (sWin Ψ).1 := by
  obtain ⟨p1, p2, p3, p4, p5, p6⟩ := h
  refine ⟨?_, p2, ?_, p4, p5, ?_⟩
  · show upI Ψ.1.1 4 (Ψ.1.1 17) 2 ≤ 500
    rw [upI_n (by decide)]; exact p1
  · show ∀ x ∈ Ψ.1.2.1, upI Ψ.1.1 4 (Ψ.1.1 17) 0 < x.1 + x.2.1
    rw [upI_n (by decide)]; exact p3
  · show upI Ψ.1.1 4 (Ψ.1.1 17) 16 = 360
    rw [upI_n (by decide)]; exact p6
theorem okP_σ0 : okP σ0 := ⟨by decide, fun i j _ h => absurd h (Nat.not_lt_zero _), (fun x hx => by cases hx), (fun x hx => by cases hx), rfl, rfl⟩
/-! ticks in two parts -/
theorem ticks_add {σ : Sg} (a : Nat) : ∀ b, ticks (ticks σ a) b = ticks σ (a + b) := by
  intro b
  induction b with
  | zero => rfl
  | succ b ih => show tick (ticks (ticks σ a) b) = tick (ticks σ (a + b)); rw [ih]
theorem tips_add {σ : Sg} (a : Nat) : ∀ b, tips σ a + tips (ticks σ a) b = tips σ (a + b) := by
  intro b
  induction b with
  | zero => rfl
  | succ b ih =>
    show tips σ a + (tips (ticks σ a) b + if tkTip (ticks (ticks σ a) b) = -1 then 0 else 1) = tips σ (a + b) + if tkTip (ticks σ (a + b)) = -1 then 0 else 1
    rw [ticks_add, ← ih]
    omega
theorem run_in {Ψ : Fs} {k : Nat} (h1 : 1 ≤ k ∧ k ≤ 1000) (h2 : Ψ.1.1 0 + k ≤ 5000) : vRun Ψ k = tips Ψ.1 k ∧ sRun Ψ k = (ticks Ψ.1 k, keepH Ψ.2.1 Ψ.1, Ψ.2.2) := by
  have e : eTk Ψ k = 0 := by
    unfold eTk
    rw [if_neg (by omega), if_neg (by omega)]
  unfold vRun sRun
  rw [if_pos e, if_pos e, Int.toNat_natCast]
  exact ⟨rfl, rfl⟩
theorem keepH_pos {hs : List Sg} {σ : Sg} : 0 < (keepH hs σ).length := by
  unfold keepH
  rw [List.length_append, List.length_singleton]
  omega
theorem und_keep {σ σ' : Sg} {hs : List Sg} {tx : List Int} : sUnd (σ', keepH hs σ, tx) = (σ, (keepH hs σ).dropLast, tx) := by
  unfold sUnd keepH
  simp
theorem vUnd_pos {Ψ : Fs} (h : 0 < Ψ.2.1.length) : vUnd Ψ = (Ψ.2.1.length : Int) - 1 := by
  unfold vUnd
  rw [if_neg (by omega)]
/-! what goes by in ticks -/
theorem tick_ac {σ : Sg} (h : ok σ) : σ.1 8 ≤ (tick σ).1 8 ∧ σ.1 9 ≤ (tick σ).1 9 ∧ (tick σ).1 2 + (tick σ).1 8 + (tick σ).1 9 ≤ σ.1 2 + σ.1 8 + σ.1 9 + 2400 := by
  have hr := tkRain_bd h
  obtain ⟨h1, h2, h3, h4, h5⟩ := h
  have f1 := fT_bd (cap := σ.1 13) (c := σ.1 1) hr.1
  have hb := bS_bd (rain := tkRain σ - fTaken (tkRain σ) (σ.1 13) (σ.1 1)) (d := if tkRain σ = 0 then 1 else 0) (cap := σ.1 11) (tt := σ.1 12) (dg := σ.1 15) (B := (σ.1 2, σ.1 3, σ.1 7, σ.1 8, σ.1 9, 0)) (by omega) h2.2.2.2.2.1.1 h2.1.1 h2.2.1 ⟨h1.2.2.1, h1.2.2.2.1.1, h1.2.2.2.1.2⟩
  obtain ⟨-, -, b1, b2, b3⟩ := hb
  refine ⟨b1, b2, ?_⟩
  show (tkB σ.1 (tkRain σ)).1 + (tkB σ.1 (tkRain σ)).2.2.2.1 + (tkB σ.1 (tkRain σ)).2.2.2.2.1 ≤ _
  refine Int.le_trans b3 ?_
  simp only
  omega
theorem ticks_ac {σ : Sg} (h : ok σ) : ∀ k : Nat, σ.1 0 + k ≤ 5000 → σ.1 8 ≤ (ticks σ k).1 8 ∧ σ.1 9 ≤ (ticks σ k).1 9 ∧ (ticks σ k).1 2 + (ticks σ k).1 8 + (ticks σ k).1 9 ≤ σ.1 2 + σ.1 8 + σ.1 9 + 2400 * k := by
  intro k
  induction k with
  | zero => intro _; exact ⟨Int.le_refl _, Int.le_refl _, by simp [ticks]⟩
  | succ k ih =>
    intro hk
    have a := ih (by omega)
    have b := tick_ac (ok_ticks h k (by omega))
    show σ.1 8 ≤ (tick (ticks σ k)).1 8 ∧ σ.1 9 ≤ (tick (ticks σ k)).1 9 ∧ (tick (ticks σ k)).1 2 + (tick (ticks σ k)).1 8 + (tick (ticks σ k)).1 9 ≤ _
    omega
theorem cap_same (σ : Sg) : capσ σ (σ.1 11) = σ := by
  unfold capσ
  have : upI σ.1 11 (σ.1 11) = σ.1 := by
    funext q
    by_cases e : q = 11
    · subst e; exact upI_s
    · exact upI_n e
  rw [this]
theorem srch_le {σ : Sg} {k : Nat} {most : Int} : ∀ (n : Nat) (c c1 : Int), c ≤ c1 → c1 < c + n → gnV σ k c1 ≤ most → c ≤ srch σ k most n c ∧ srch σ k most n c ≤ c1 := by
  intro n
  induction n with
  | zero => intro c c1 h1 h2; omega
  | succ n ih =>
    intro c c1 h1 h2 h3
    simp only [srch]
    split
    · exact ⟨Int.le_refl _, h1⟩
    · rename_i q
      by_cases e : c = c1
      · subst e; exact absurd h3 q
      · have := ih (c + 1) c1 (by omega) (by omega) h3
        omega
/-- what 40 ticks would lose, and the capacity for it -/
theorem cap_40 {Ψ : Fs} (hk : okX Ψ) (hp : okP Ψ.1) (h : Ψ.1.1 0 + 40 ≤ 5000) : vIfr Ψ 40 2 = (ticks Ψ.1 40).1 8 - Ψ.1.1 8 ∧ vIfr Ψ 40 3 = (ticks Ψ.1 40).1 9 - Ψ.1.1 9 ∧ (0 ≤ vIfr Ψ 40 2 ∧ 0 ≤ vIfr Ψ 40 3 ∧ vIfr Ψ 40 2 + vIfr Ψ 40 3 ≤ 100000) ∧ 20 ≤ vCap Ψ 40 (vIfr Ψ 40 2 + vIfr Ψ 40 3) ∧ vCap Ψ 40 (vIfr Ψ 40 2 + vIfr Ψ 40 3) ≤ Ψ.1.1 11 := by
  have e : eTk Ψ 40 = 0 := by
    unfold eTk
    rw [if_neg (by omega), if_neg (by omega)]
  have e2 : vIfr Ψ 40 2 = (ticks Ψ.1 40).1 8 - Ψ.1.1 8 := by
    unfold vIfr
    rw [if_neg (by omega), if_pos e, if_neg (by omega), if_pos (by omega)]
    rfl
  have e3 : vIfr Ψ 40 3 = (ticks Ψ.1 40).1 9 - Ψ.1.1 9 := by
    unfold vIfr
    rw [if_neg (by omega), if_pos e, if_neg (by omega), if_pos (by omega)]
    rfl
  have h1 := ticks_ac hk.1 40 (by omega)
  have h2 := (ok_ticks hk.1 40 (by omega)).1.2.2.1
  have h3 := hp.1
  have hg : gnV Ψ.1 40 (Ψ.1.1 11) ≤ vIfr Ψ 40 2 + vIfr Ψ 40 3 := by
    unfold gnV
    rw [cap_same, e2, e3]
    omega
  have hcap := hk.1.2.1.1
  have hs := srch_le (σ := Ψ.1) (k := 40) (most := vIfr Ψ 40 2 + vIfr Ψ 40 3) 481 20 (Ψ.1.1 11) hcap.1 (by omega) hg
  have hm : 0 ≤ vIfr Ψ 40 2 + vIfr Ψ 40 3 ∧ vIfr Ψ 40 2 + vIfr Ψ 40 3 ≤ 100000 := by
    rw [e2, e3]
    omega
  refine ⟨e2, e3, ⟨by rw [e2]; omega, by rw [e3]; omega, hm.2⟩, ?_⟩
  unfold vCap
  rw [if_neg (by omega), if_pos e]
  exact hs
/-! storms -/
theorem isPk_ex {t : Nat → Int} {f e : Nat} (h : f < e) : ∃ B : Nat, isPk t f e (B : Int) ∧ 1 ≤ B ∧ B ≤ e - f := by
  obtain ⟨B, hB, hmin⟩ := pk_least (fun B => ∀ i j : Nat, f ≤ i → i ≤ j → j < e → t j - t i < 30 → j - i + 1 ≤ B) ⟨e - f, fun i j h1 h2 h3 _ => by omega⟩
  have h1 : 1 ≤ B := by
    have := hB f f (Nat.le_refl _) (Nat.le_refl _) h (by omega)
    omega
  have hle : B ≤ e - f := Classical.byContradiction (fun q => hmin (e - f) (by omega) (fun i j h1 h2 h3 _ => by omega))
  have hn := hmin (B - 1) (by omega)
  have hex : ∃ i j : Nat, f ≤ i ∧ i ≤ j ∧ j < e ∧ t j - t i < 30 ∧ B - 1 < j - i + 1 := Classical.byContradiction (fun q => hn (fun i j a b c d => Classical.byContradiction (fun r => q ⟨i, j, a, b, c, d, by omega⟩)))
  obtain ⟨i, j, a, b, c, d, r⟩ := hex
  have hb := hB i j a b c d
  exact ⟨B, ⟨⟨i, j, a, b, c, d, by omega⟩, fun i' j' a' b' c' d' => by have := hB i' j' a' b' c' d'; omega⟩, h1, hle⟩
theorem pkV_bd {t : Nat → Int} {f e : Nat} (h : f < e) : 1 ≤ pkV t f e ∧ pkV t f e ≤ (e : Int) - f := by
  obtain ⟨B, hB, h1, h2⟩ := isPk_ex (t := t) h
  rw [← pkV_of hB]
  omega
theorem sF_0 {t : Nat → Int} {gap : Int} {n : Nat} : sF t gap n 0 = 0 := by
  unfold sF
  rw [sxN_of (f := 0) n (fun i hi => absurd hi (Nat.not_lt_zero _)) (fun i _ _ => by
    have h1 : cnt t gap 1 = 1 := by simp [cnt]
    have := cnt_le_of (t := t) (gap := gap) (show 1 ≤ i + 1 by omega)
    omega)]
  omega
theorem sF_n {t : Nat → Int} {gap : Int} {n : Nat} : sF t gap n (cnt t gap n) = n := by
  unfold sF
  rw [sxN_of (f := n) n (fun i hi _ => cnt_le_of (by omega)) (fun i h1 h2 => by omega)]
  omega
/-- how many storms -/
def nS (Ψ : Fs) : Nat := cnt (k1 Ψ.1.2.2.2) (Ψ.1.1 18) Ψ.1.2.2.2.length
/-- where a storm begins -/
def bS2 (Ψ : Fs) (k : Nat) : Nat := sF (k1 Ψ.1.2.2.2) (Ψ.1.1 18) Ψ.1.2.2.2.length k
theorem sto_in {Ψ : Fs} (hk : okX Ψ) {k : Nat} (h : k < nS Ψ) : vSto Ψ k 0 = (bS2 Ψ k : Int) ∧ vSto Ψ k 1 = (bS2 Ψ (k + 1) : Int) - bS2 Ψ k ∧ (1 ≤ vSto Ψ k 5 ∧ vSto Ψ k 5 ≤ vSto Ψ k 1) ∧ vSto Ψ k 3 = vSto Ψ k 1 * Ψ.1.1 11 ∧ (0 ≤ vSto Ψ k 3 ∧ vSto Ψ k 3 ≤ 30000) ∧ bS2 Ψ k < bS2 Ψ (k + 1) ∧ bS2 Ψ (k + 1) ≤ 60 := by
  obtain ⟨q1, q2, q3, q4⟩ := sF_at h
  have hlen := hk.1.2.2.2.2.1
  have hc : ∀ w : Int, 0 ≤ w ∧ w ≤ 5 → ¬ (¬ (0 ≤ (k : Int) ∧ (k : Int) < (cnt (k1 Ψ.1.2.2.2) (Ψ.1.1 18) Ψ.1.2.2.2.length : Int)) ∨ ¬ (0 ≤ w ∧ w ≤ 5)) := by
    intro w hw
    have : k < cnt (k1 Ψ.1.2.2.2) (Ψ.1.1 18) Ψ.1.2.2.2.length := h
    omega
  have a0 : vSto Ψ k 0 = (bS2 Ψ k : Int) := by
    unfold vSto bS2
    rw [if_neg (hc 0 (by omega)), if_pos rfl, Int.toNat_natCast]
  have a1 : vSto Ψ k 1 = (bS2 Ψ (k + 1) : Int) - bS2 Ψ k := by
    unfold vSto bS2
    rw [if_neg (hc 1 (by omega)), if_neg (by omega), if_pos rfl, Int.toNat_natCast]
  have a3 : vSto Ψ k 3 = amtV (Ψ.1.1 11) (bS2 Ψ k) (bS2 Ψ (k + 1)) := by
    unfold vSto bS2
    rw [if_neg (hc 3 (by omega)), if_neg (by omega), if_neg (by omega), if_neg (by omega), if_pos rfl, Int.toNat_natCast]
  have a5 : vSto Ψ k 5 = pkV (k1 Ψ.1.2.2.2) (bS2 Ψ k) (bS2 Ψ (k + 1)) := by
    unfold vSto bS2
    rw [if_neg (hc 5 (by omega)), if_neg (by omega), if_neg (by omega), if_neg (by omega), if_neg (by omega), if_neg (by omega), Int.toNat_natCast]
  have q1' : bS2 Ψ k < bS2 Ψ (k + 1) := q1
  have q2' : bS2 Ψ (k + 1) ≤ Ψ.1.2.2.2.length := q2
  have hp := pkV_bd (t := k1 Ψ.1.2.2.2) q1'
  have hcap := hk.1.2.1.1
  have hm : vSto Ψ k 3 = vSto Ψ k 1 * Ψ.1.1 11 := by rw [a3, a1]; rfl
  have hlo : 0 ≤ vSto Ψ k 1 * Ψ.1.1 11 := Int.mul_nonneg (by omega) (by omega)
  have hhi : vSto Ψ k 1 * Ψ.1.1 11 ≤ 60 * Ψ.1.1 11 := Int.mul_le_mul_of_nonneg_right (by omega) (by omega)
  exact ⟨a0, a1, ⟨by omega, by omega⟩, hm, ⟨by omega, by omega⟩, q1', by omega⟩
theorem grB_in {Ψ : Fs} (hk : okX Ψ) : ∀ k, 1 ≤ k → k ≤ nS Ψ → 0 ≤ (grB Ψ k).1 ∧ (grB Ψ k).1 < k ∧ 0 ≤ (grB Ψ k).2 := by
  intro k
  induction k with
  | zero => intro h; omega
  | succ k ih =>
    intro _ h
    have hs := sSum_bd hk (show k < cnt (k1 Ψ.1.2.2.2) (Ψ.1.1 18) Ψ.1.2.2.2.length from h)
    simp only [grB]
    split
    · simp only; omega
    · rename_i c
      by_cases e : k = 0
      · subst e
        simp only [grB] at c
        omega
      · have := ih (by omega) (by unfold nS at *; omega)
        omega
theorem cnt_pos {t : Nat → Int} {gap : Int} {n : Nat} (h : 0 < n) : 1 ≤ cnt t gap n := by
  have h1 : cnt t gap 1 = 1 := by simp [cnt]
  have := cnt_le_of (t := t) (gap := gap) (show 1 ≤ n by omega)
  omega
theorem gre_in {Ψ : Fs} (hk : okX Ψ) : (Ψ.1.2.2.2.length = 0 ∧ vGre2 Ψ = -4) ∨ (0 < Ψ.1.2.2.2.length ∧ 0 ≤ vGre2 Ψ ∧ vGre2 Ψ ≤ 60) := by
  have hlen := hk.1.2.2.2.2.1
  by_cases e : Ψ.1.2.2.2.length = 0
  · left
    refine ⟨e, ?_⟩
    unfold vGre2
    rw [e]
    rfl
  · right
    have h1 := cnt_pos (t := k1 Ψ.1.2.2.2) (gap := Ψ.1.1 18) (show 0 < Ψ.1.2.2.2.length by omega)
    have h2 := cnt_le (k1 Ψ.1.2.2.2) (Ψ.1.1 18) Ψ.1.2.2.2.length
    have h3 := grB_in hk (nS Ψ) h1 (Nat.le_refl _)
    have h4 : nS Ψ ≤ 60 := Nat.le_trans h2 hlen
    refine ⟨by omega, h3.1, ?_⟩
    have : vGre2 Ψ = (grB Ψ (nS Ψ)).1 := rfl
    omega
theorem cnt_one {t : Nat → Int} {gap : Int} : ∀ n, 0 < n → mxG t n ≤ gap → cnt t gap n = 1 := by
  intro n
  induction n with
  | zero => intro h; omega
  | succ n ih =>
    intro _ h
    by_cases e : n = 0
    · subst e; simp [cnt]
    · simp only [mxG] at h
      rw [if_neg e] at h
      simp only [cnt]
      rw [ih (by omega) (by omega), if_neg (by omega)]
theorem cnt_two {t : Nat → Int} {gap : Int} (hg : 0 ≤ gap) : ∀ n, gap < mxG t n → 2 ≤ cnt t gap n := by
  intro n
  induction n with
  | zero => intro h; simp [mxG] at h; omega
  | succ n ih =>
    intro h
    by_cases e : n = 0
    · subst e; simp [mxG] at h; omega
    · simp only [mxG] at h
      rw [if_neg e] at h
      simp only [cnt]
      by_cases c : gap < mxG t n
      · have := ih c
        omega
      · have := cnt_pos (t := t) (gap := gap) (show 0 < n by omega)
        rw [if_pos (by omega)]
        omega
/-! numbers that the calls tell -/
theorem vA {Ψ : Fs} : vAcc Ψ 0 = Ψ.1.1 6 ∧ vAcc Ψ 1 = Ψ.1.1 7 ∧ vAcc Ψ 2 = Ψ.1.1 8 ∧ vAcc Ψ 3 = Ψ.1.1 9 ∧ vAcc Ψ 4 = Ψ.1.1 10 := ⟨rfl, rfl, rfl, rfl, rfl⟩
theorem vC {Ψ : Fs} : vCnt Ψ 0 = Ψ.1.1 0 ∧ vCnt Ψ 1 = (Ψ.1.2.1.length : Int) ∧ vCnt Ψ 2 = (Ψ.1.2.2.2.length : Int) ∧ vCnt Ψ 3 = (nS Ψ : Int) ∧ vCnt Ψ 4 = Ψ.1.1 1 ∧ vCnt Ψ 5 = Ψ.1.1 2 ∧ vCnt Ψ 6 = Ψ.1.1 3 ∧ vCnt Ψ 8 = Ψ.1.1 5 ∧ vCnt Ψ 11 = (Ψ.2.1.length : Int) ∧ vCnt Ψ 13 = tkRain Ψ.1 ∧ vCnt Ψ 20 = Ψ.1.1 11 ∧ vCnt Ψ 25 = Ψ.1.1 16 ∧ vCnt Ψ 26 = Ψ.1.1 17 := ⟨rfl, rfl, rfl, rfl, rfl, rfl, rfl, rfl, rfl, rfl, rfl, rfl, rfl⟩
theorem plG_nil {cn te : Int} (h1 : 0 ≤ cn ∧ cn < 2147483648) (h2 : 0 < te ∧ te < 2147483648) : plG [] cn te = cn % te := by
  obtain ⟨n, rfl⟩ := Int.eq_ofNat_of_zero_le h1.1
  obtain ⟨d, rfl⟩ := Int.eq_ofNat_of_zero_le (show 0 ≤ te by omega)
  have hm : n % d < 2 ^ 31 := Nat.lt_of_le_of_lt (Nat.mod_le n d) (by omega)
  show ((iI (n : Int)).toInt64 / lN 1 - (iI (n : Int)).toInt64 / lN 1 / (iI (d : Int)).toInt64 * (iI (d : Int)).toInt64).toInt32.toInt = _
  rw [iI_l ⟨by omega, by omega⟩, iI_l ⟨by omega, by omega⟩, Int.toNat_natCast, Int.toNat_natCast, pk_lDiv (by omega) (by decide) (by decide), Nat.div_one, pk_lRem (by omega) (by omega) (by omega), lN_i, nI_toInt hm]
  rfl
theorem vC9 {Ψ : Fs} (hk : okX Ψ) (hp : okP Ψ.1) : 0 ≤ vCnt Ψ 9 ∧ vCnt Ψ 9 < 360 := by
  have e : vCnt Ψ 9 = plG Ψ.1.2.2.1 (Ψ.1.1 5) (Ψ.1.1 16) := rfl
  have h5 := hk.1.1.2.2.2.2.2.1
  have h0 := hk.1.1.1
  rw [e, hp.2.2.2.2.1, hp.2.2.2.2.2, plG_nil ⟨h5.1, by omega⟩ ⟨by decide, by decide⟩]
  omega
theorem vM {Ψ : Fs} {k : Nat} (h : k < Ψ.1.2.2.2.length) : vMar Ψ k 0 = k1 Ψ.1.2.2.2 k ∧ vMar Ψ k 2 = k3 Ψ.1.2.2.2 k := by
  unfold vMar
  rw [if_neg (by omega), if_pos rfl, if_neg (by omega), if_neg (by omega), if_neg (by omega), Int.toNat_natCast]
  exact ⟨rfl, rfl⟩
theorem vS {Ψ : Fs} {k : Nat} (h : k < Ψ.1.2.1.length) : vSho Ψ k 0 = k1 Ψ.1.2.1 k ∧ vSho Ψ k 1 = k2 Ψ.1.2.1 k ∧ vSho Ψ k 2 = k3 Ψ.1.2.1 k ∧ vSho Ψ k 3 = k1 Ψ.1.2.1 k + k2 Ψ.1.2.1 k - max (k1 Ψ.1.2.1 k) (Ψ.1.1 0) := by
  unfold vSho
  rw [if_neg (by omega), if_pos rfl, if_neg (by omega), if_neg (by omega), if_pos rfl, if_neg (by omega), if_neg (by omega), if_neg (by omega), if_pos rfl, if_neg (by omega), if_neg (by omega), if_neg (by omega), if_neg (by omega), Int.toNat_natCast]
  exact ⟨rfl, rfl, rfl, rfl⟩
theorem mk_in {Ψ : Fs} (hk : okX Ψ) (hp : okP Ψ.1) {k : Nat} (h : k < Ψ.1.2.2.2.length) : (0 ≤ vMar Ψ k 0 ∧ vMar Ψ k 0 < Ψ.1.1 0) ∧ (0 ≤ vMar Ψ k 2 ∧ vMar Ψ k 2 ≤ 5000) ∧ (∀ j : Nat, j < k → vMar Ψ j 0 < vMar Ψ k 0) := by
  obtain ⟨-, m2, m3⟩ := hk.1.2.2.2.2
  have hm := m2 _ (k_mem h)
  have hv := hp.2.2.2.1 _ (k_mem h)
  obtain ⟨e1, e2⟩ := vM h
  rw [e1, e2]
  refine ⟨hm, hv, fun j hj => ?_⟩
  have hj2 : j < Ψ.1.2.2.2.length := by omega
  rw [(vM hj2).1, (k_get hj2).1, (k_get h).1]
  exact List.pairwise_iff_getElem.mp m3 j k hj2 h hj
theorem sh_in {Ψ : Fs} (hk : okX Ψ) (hp : okP Ψ.1) {k : Nat} (h : k < Ψ.1.2.1.length) : (0 ≤ vSho Ψ k 0 ∧ vSho Ψ k 0 ≤ 5000) ∧ (0 < vSho Ψ k 3 ∧ vSho Ψ k 3 ≤ vSho Ψ k 1 ∧ vSho Ψ k 1 ≤ 500) ∧ (∀ j : Nat, j < k → vSho Ψ j 0 ≤ vSho Ψ k 0) := by
  obtain ⟨-, m2⟩ := hk.1.2.2.1
  have hm := m2 _ (k_mem h)
  have ha := hp.2.2.1 _ (k_mem h)
  obtain ⟨e0, e1, e2, e3⟩ := vS h
  simp only at hm ha
  rw [e0, e1, e3]
  refine ⟨hm.1, ⟨by omega, by omega, hm.2.1.2⟩, fun j hj => ?_⟩
  have hj2 : j < Ψ.1.2.1.length := by omega
  rw [(vS hj2).1]
  exact hp.2.1 j k hj h
theorem add_out {Ψ : Fs} {b l r : Int} (hk : okX Ψ) (hb : Ψ.1.1 0 ≤ b ∧ b ≤ 5000) (hl : 1 ≤ l ∧ l ≤ 500) (hr : 1 ≤ r ∧ r ≤ 200) : (sAdd Ψ b l r).1.1 = Ψ.1.1 ∧ ((vAdd Ψ b l r = -3 ∧ vCnt (sAdd Ψ b l r) 1 = 12) ∨ (0 ≤ vAdd Ψ b l r ∧ vAdd Ψ b l r ≤ 12 ∧ vSho (sAdd Ψ b l r) (vAdd Ψ b l r) 2 = r)) := by
  have hc : ¬ (¬ (Ψ.1.1 0 ≤ b ∧ b ≤ 5000) ∨ ¬ (1 ≤ l ∧ l ≤ 500) ∨ ¬ (1 ≤ r ∧ r ≤ 200)) := by omega
  have hlen := hk.1.2.2.1.1
  unfold vAdd sAdd
  rw [if_neg hc, if_neg hc]
  by_cases q : 12 ≤ Ψ.1.2.1.length
  · rw [if_pos q, if_pos q]
    refine ⟨rfl, Or.inl ⟨rfl, ?_⟩⟩
    show (Ψ.1.2.1.length : Int) = 12
    omega
  · rw [if_neg q, if_neg q]
    have hp : insI Ψ.1.2.1 b ≤ Ψ.1.2.1.length := insP_le _ _ _
    refine ⟨rfl, Or.inr ⟨by omega, by omega, ?_⟩⟩
    rw [(vS (Ψ := ((Ψ.1.1, insL Ψ.1.2.1 (b, l, r), Ψ.1.2.2.1, Ψ.1.2.2.2), keepH Ψ.2.1 Ψ.1, Ψ.2.2)) (k := insI Ψ.1.2.1 b) (by show _ < (insL Ψ.1.2.1 (b, l, r)).length; rw [insL_len]; omega)).2.2.1]
    show k3 (insL Ψ.1.2.1 (b, l, r)) (insI Ψ.1.2.1 b) = r
    rw [k3_ins (by omega)]
    show insF (k3 Ψ.1.2.1) (insI Ψ.1.2.1 b) Ψ.1.2.1.length r (insI Ψ.1.2.1 b) = r
    unfold insF
    rw [if_neg (Nat.lt_irrefl _), if_pos rfl]
/-- the gap for one storm -/
theorem gap_in {Ψ : Fs} : vGap Ψ = -4 ∨ (1 ≤ vGap Ψ ∧ vGap Ψ ≤ 1000 ∧ cnt (k1 Ψ.1.2.2.2) (vGap Ψ) Ψ.1.2.2.2.length = 1 ∧ (vGap Ψ = 1 ∨ 2 ≤ cnt (k1 Ψ.1.2.2.2) (vGap Ψ - 1) Ψ.1.2.2.2.length)) := by
  unfold vGap
  by_cases e : Ψ.1.2.2.2.length = 0
  · rw [if_pos e]; exact Or.inl rfl
  · rw [if_neg e]
    by_cases c : 1000 < max 1 (mxG (k1 Ψ.1.2.2.2) Ψ.1.2.2.2.length)
    · rw [if_pos c]; exact Or.inl rfl
    · rw [if_neg c]
      refine Or.inr ⟨by omega, by omega, cnt_one _ (by omega) (by omega), ?_⟩
      by_cases d : mxG (k1 Ψ.1.2.2.2) Ψ.1.2.2.2.length ≤ 1
      · left; omega
      · right; exact cnt_two (by omega) _ (by omega)
theorem vAcc_1 {Ψ Φ : Fs} (h : Ψ.1 = Φ.1) (w : Int) : vAcc Ψ w = vAcc Φ w := by
  unfold vAcc
  rw [h]
theorem vCnt_1 {Ψ Φ : Fs} (h : Ψ.1 = Φ.1) {w : Int} (h1 : w ≠ 11) (h2 : w ≠ 12) : vCnt Ψ w = vCnt Φ w := by
  unfold vCnt
  rw [h]
  simp only [if_neg h1, if_neg h2]
end
section
/-! rows that the law needs: remainders, shifts, a mask, calls of its own methods, the script in a callee -/
theorem iI_rem {a b : Int} (h : 0 ≤ a ∧ a < 2147483648 ∧ 0 < b ∧ b < 2147483648) : ¬ iI b = 0 ∧ iI a - iI a / iI b * iI b = iI (a % b) := by
  obtain ⟨n, rfl⟩ := Int.eq_ofNat_of_zero_le h.1
  obtain ⟨d, rfl⟩ := Int.eq_ofNat_of_zero_le (by omega : 0 ≤ b)
  refine ⟨fun e => ?_, ?_⟩
  · rw [iI_0, iI_eq ⟨by omega, by omega⟩ ⟨by omega, by omega⟩] at e
    omega
  · rw [show ((n : Int) % (d : Int)) = ((n % d : Nat) : Int) from (Int.natCast_emod n d).symm, iI_nI, iI_nI, iI_nI]
    exact pk_rem (by omega) (by omega) (by omega)
theorem iI_shr {a : Int} (h : 0 ≤ a ∧ a < 2147483648) (s : Int32) (k : Nat) (hs : (s.toBitVec.smod 32).toNat = k) : iI a >>> s = iI (a / ((2 ^ k : Nat) : Int)) := by
  obtain ⟨n, rfl⟩ := Int.eq_ofNat_of_zero_le h.1
  rw [show ((n : Int) / ((2 ^ k : Nat) : Int)) = ((n / 2 ^ k : Nat) : Int) from (Int.natCast_ediv n (2 ^ k)).symm, iI_nI, iI_nI]
  exact pk_shrN (by omega) s k hs
theorem iI_mask (a : Int) : ∃ r : Int, 0 ≤ r ∧ r ≤ 2147483647 ∧ iI a &&& iI 2147483647 = iI r := by
  have h1 : (iI a &&& iI 2147483647).toBitVec.toNat ≤ 2147483647 := by
    rw [Int32.toBitVec_and, BitVec.toNat_and]
    exact Nat.le_trans Nat.and_le_right (by decide)
  refine ⟨((iI a &&& iI 2147483647).toBitVec.toNat : Int), by omega, by omega, ?_⟩
  rw [iI_nI]
  apply Int32.toBitVec_inj.mp
  simp [nI]
/-- a method's start with the law's script beside the world -/
def PreX (G : Gc) (as : List Value) (E : Wd) (n b L : Nat) (xs : Nat → Int32) : Array Value → State → Prop := fun a U => PreC G as E n a U ∧ va_X b L xs U U.heap
theorem PreX.blind {G : Gc} {as : List Value} {E : Wd} {n b L : Nat} {xs : Nat → Int32} : FrameBlind (PreX G as E n b L xs) := fun a U g mk h => ⟨PreC.blind a U g mk h.1, va_X.moved (u := U) (U := U.calling g mk a) (Vm.Alike.refl U.vm) h.2⟩
section LawRows
variable {X : Fx} {E : Wd} {z : Nat × Nat × Nat} {pc : Nat} {ls : List (Option Value)} {st stk : List Value} {cc : ByteArray} {ow : String}
theorem v_iremI (cx : Cx X cc ow) {a b : Int} (h : 0 ≤ a ∧ a < 2147483648 ∧ 0 < b ∧ b < 2147483648) (hd : decode cc pc = .ok (.irem, 1)) (k : V X E z (pc + 1) ls (.int (iI (a % b)) :: st)) : V X E z pc ls (.int (iI b) :: .int (iI a) :: st) :=
  k.st (fun H locs L hl k => lv_irem cx.1 cx.2.1 hd (iI_rem h).1 (by rw [(iI_rem h).2]; exact k))
theorem v_ishrI (cx : Cx X cc ow) {a n : Int} (k0 : Nat) (d : Int) (h : 0 ≤ a ∧ a < 2147483648) (hs : ((iI n &&& 31).toBitVec.smod 32).toNat = k0) (hk : ((2 ^ k0 : Nat) : Int) = d) (hd : decode cc pc = .ok (.ishr, 1)) (k : V X E z (pc + 1) ls (.int (iI (a / d)) :: st)) : V X E z pc ls (.int (iI n) :: .int (iI a) :: st) := by
  subst hk
  exact k.st (fun H locs L hl k => lv_ishr cx.1 cx.2.1 hd (by rw [iI_shr h _ k0 hs]; exact k))
theorem v_maskI (cx : Cx X cc ow) {a : Int} (hd : decode cc pc = .ok (.iand, 1)) (kk : ∀ r : Int, 0 ≤ r → r ≤ 2147483647 → V X E z (pc + 1) ls (.int (iI r) :: st)) : V X E z pc ls (.int (iI 2147483647) :: .int (iI a) :: st) := by
  obtain ⟨r, h1, h2, h3⟩ := iI_mask a
  have k := kk r h1 h2
  rw [← h3] at k
  exact v_iand cx hd k
theorem v_same (cx : Cx X cc ow) {x : Int32} {off : Int} (hd : decode cc pc = .ok (.if_icmp .ne off, 3)) (tgt : Nat) (ht : (pc : Int) + off = (tgt : Int)) (kf : V X E z (pc + 3) ls st) : V X E z pc ls (.int x :: .int x :: st) :=
  fun H locs L h1 => lv_icmp_ne cx.1 cx.2.1 hd ht (fun q => absurd rfl q) (fun _ => kf H locs L h1)
theorem v_sld (cx : Cx X cc ow) {b L : Nat} {xs : Nat → Int32} (hX : va_X b L xs (fS X) (fS X).heap) (hb : b < (fS X).heap.size ∧ b < gb (fG X)) {i : Int} (j : Nat) (hj : i = (j : Int) ∧ j < L ∧ (j : Int) < 2147483648) (hd : decode cc pc = .ok (.iaload, 1)) (kk : V X E z (pc + 1) ls (.int (iI (xs j).toInt) :: st)) : V X E z pc ls (.int (iI i) :: .ref b :: st) := by
  intro H locs L1 h1
  obtain ⟨e1, e2⟩ := iI_in hj.1 hj.2.1 hj.2.2
  have k := kk H locs L1 h1
  rw [← iI_of (xs j)] at k
  exact va_sld cx.1 cx.2.1 hX hb.1 (show ¬ gb (fG X) ≤ b by omega) h1.2.2.1 e1 hd (by rw [e2]; exact k)
theorem v_slen (cx : Cx X cc ow) {b L : Nat} {xs : Nat → Int32} (hX : va_X b L xs (fS X) (fS X).heap) (hb : b < (fS X).heap.size ∧ b < gb (fG X)) (hd : decode cc pc = .ok (.arraylength, 1)) (kk : V X E z (pc + 1) ls (.int (iI (L : Int)) :: st)) : V X E z pc ls (.ref b :: st) := by
  intro H locs L1 h1
  have k := kk H locs L1 h1
  rw [show iI (L : Int) = Int32.ofNat L from Int32.ofInt_eq_ofNat (n := L)] at k
  exact va_slen cx.1 cx.2.1 hX hb.1 (show ¬ gb (fG X) ≤ b by omega) h1.2.2.1 hd k
/-- a static call that makes cells -/
theorem v_callSIm (cx : Cx X cc ow) {lv mc ms lv' mc' ms' nLy idx : Nat} {y : MethodName} {cy : ByteArray} {ty : FieldType} {as : List Value} {P : Int → Wd → Prop} (hR : RM X lv mc ms) (hM : CI (fL X) (fG X) lv' y cy nLy ty as E z.1 mc' ms' P) (hl : MLS ow idx y cy nLy (some ty) as.length) (hlv : lv' + 1 ≤ lv)
    (hstk : stk = as.reverse ++ st) (hcat : (st.map fun v => v.category).sum ≤ 8) (hroom : z.2.1 + mc' ≤ mc ∧ z.2.2 + ms' ≤ ms) (hd : decode cc pc = .ok (.invokestatic idx, 3)) (kk : ∀ (r : Int) (E' : Wd), P r E' → V X E' (z.1 + mc', z.2.1 + mc', z.2.2 + ms') (pc + 3) ls (.int (iI r) :: st)) : V X E z pc ls stk :=
  fun H locs L h1 => after_I h1 (v_runS cx hR h1 hM hl rfl hlv hstk hcat hroom hd) kk
/-- the call of a static method that reads the script -/
theorem v_callX (cx : Cx X cc ow) {lv mc ms lv' nLy idx b L : Nat} {xs : Nat → Int32} {y : MethodName} {cy : ByteArray} {ty : FieldType} {as : List Value} {P : Int → Wd → Prop} (hR : RM X lv mc ms) (hX : va_X b L xs (fS X) (fS X).heap) (hb : b < (fS X).heap.size ∧ b < gb (fG X)) (hM : Met (fL X) y (Cond.code y cy nLy (some ty) :: TB) (rmk lv' 0 0) (PreX (fG X) as E z.1 b L xs) (QI (fG X) P (z.1 + 0)) 0 0 (gO (fG X))) (hl : MLS ow idx y cy nLy (some ty) as.length) (hlv : lv' + 1 ≤ lv)
    (hstk : stk = as.reverse ++ st) (hcat : (st.map fun v => v.category).sum ≤ 8) (hroom : z.2.1 ≤ mc ∧ z.2.2 ≤ ms) (hd : decode cc pc = .ok (.invokestatic idx, 3)) (kk : ∀ (r : Int) (E' : Wd), P r E' → V X E' z (pc + 3) ls (.int (iI r) :: st)) : V X E z pc ls stk := by
  intro H locs L1 h1
  refine after_I (mc := 0) (ms := 0) (as := as) h1 ?_ kk
  obtain ⟨⟨b1, b2, b3, b4, b5⟩, b6⟩ := hl
  have ht := cx.2.2.2.1
  subst hstk
  have hroom := rm_room (mc' := 0) (ms' := 0) hR hroom
  have hpre : ∀ U : State, U.heap = H → (fS X).WarmedH U.vm → PreX (fG X) as E z.1 b L xs as.toArray U := fun U hU hW => ⟨pre_at cx h1 as U hU hW, by
    rw [hU]
    exact va_X.moved hW.alike (hX.kept (h1.2.2.1.2.1 b hb.1 (show ¬ gb (fG X) ≤ b by omega)))⟩
  rcases b5 with b5 | ⟨host, b5⟩
  · exact va_runS (Ts := TB) (fix_of cx h1.2.2.2.2) hM ⟨callB_of _ ht (code_good b2) rfl rfl rfl (ht _ b1) (ht _ b5) b3 (rm_fit hR hlv b4), ht _ b6⟩ ⟨PreX.blind, hpre⟩ rfl rfl h1.2.2.2.1.1 rfl (lv_room hcat) hd hroom
  · exact va_runSN (Ts := TB) (fix_of cx h1.2.2.2.2) hM ⟨va_cnB _ ht (code_good b2) rfl rfl rfl (va_nwTN cx b5) (ht _ b1) b3 (rm_fit hR hlv b4), ht _ b6, trivial⟩ ⟨PreX.blind, hpre⟩ rfl rfl h1.2.2.2.1.1 rfl (lv_room hcat) hd hroom
end LawRows
theorem CIX.mk {l : Launch} {G : Gc} {lv : Nat} {y : MethodName} {cc : ByteArray} {nL : Nat} {ty : FieldType} {as : List Value} {E : Wd} {n b L : Nat} {xs : Nat → Int32} {P : Int → Wd → Prop} (hy : plainFor y = true) (hc : as.all (fun w => w.category == 1) = true) (hn : as.length ≤ nL)
    (body : ∀ X : Fx, fG X = G → fL X = l → Cx X cc y.cls → RM X lv 0 0 → RI X P (n + 0) 0 0 ty → va_X b L xs (fS X) (fS X).heap → b < (fS X).heap.size → V X E (n, 0, 0) 0 (lsO as nL) []) : Met l y (Cond.code y cc nL (some ty) :: TB) (rmk lv 0 0) (PreX G as E n b L xs) (QI G P (n + 0)) 0 0 (gO G) := by
  have hc : ∀ w ∈ as, w.category = 1 := fun w hw => by simpa using List.all_eq_true.mp hc w hw
  refine va_MetF (cc := cc) (maxL := nL) (ret := some ty) hy rfl ?_
  intro p e s m args below meth c s₁ B hml hv
  obtain ⟨⟨rfl, hw, hsz, hkz⟩, hX⟩ := hv
  have hts := atoms_spec (ws := Cond.code y cc nL (some ty) :: TB) B.pre
  have hl := lv_entry as (n := nL) (by rw [lg_sl_len as hc]; exact hn)
  rw [lg_entry_eq]
  have hbl : b < s.heap.size := by
    obtain ⟨scr, h1, -⟩ := hX
    exact (Array.getElem?_eq_some_iff.mp h1).1
  have hb := body (p, l, e, rmk lv 0 0, s, m, as.toArray, below, meth, c, G, MQ below (QI G P (n + 0)) as.toArray s 0 0 (gO G)) rfl rfl ⟨B.exec, B.bytes, findClass_of_methodNamed B.named, fun w hw => hts w (List.mem_cons_of_mem _ hw), hkz, by rw [hsz]; exact Nat.le_add_right _ _⟩ ⟨Nat.le_refl _, Nat.le_refl _, Nat.le_refl _, Nat.le_refl _⟩ ⟨rfl, B.returns, B.notSynchronized⟩ hX hbl
  exact hb s.heap [] _ ⟨hw, hsz, va_S.rf, lsH_entry hc hn hl, by rw [hml]; simp [lsO]; omega⟩
set_option maxRecDepth 100000 in
set_option maxHeartbeats 4000000 in
theorem c_cell (lc : Launch) (G : Gc) (E : Wd) (nh : Nat) {b L : Nat} {xs : Nat → Int32} {k : Nat} (hb : b < gb G) (hL : L ≤ 260) (hk : k < 1000) : Met lc yL_cell (Cond.code yL_cell cL_cell 2 (some .int) :: TB) (rmk 1 0 0) (PreX G [.ref b, .int (iI (k : Int))] E nh b L xs) (QI G (fun r E' => (0 ≤ r ∧ r ≤ 2147483647) ∧ E' = E) (nh + 0)) 0 0 (gO G) := by
  refine CIX.mk (by decide +kernel) rfl (Nat.le_of_ble_eq_true rfl) ?_
  intro X hG hL1 cx hR hI hX hbl
  subst hG; subst hL1
  have hb := And.intro hbl hb
  show V X E (nh, 0, 0) 0 [some (.ref b), some (.int (iI (k : Int)))] []
  have fin : ∀ a : Int, V X E (nh, 0, 0) 19 [some (.ref b), some (.int (iI (k : Int)))] [.int (iI a)] := by
    intro a
    refine v_ldc (pc := 19) cx kcL_8 dL_cell_19 ?_
    refine v_maskI (pc := 21) cx dL_cell_21 (fun r h0 h1 => ?_)
    refine v_ireturn (pc := 22) cx hI rfl ?_ dL_cell_22
    exact ⟨⟨h0, h1⟩, rfl⟩
  refine v_iload_n (pc := 0) cx rfl ga1 dL_cell_0 ?_
  refine v_aload_n (pc := 1) cx rfl ga0 dL_cell_1 ?_
  refine v_slen (pc := 2) cx hX hb dL_cell_2 ?_
  refine v_icmp_ge (pc := 3) cx 12 dL_cell_3 rfl (by omega) (fun c3 => ?_) (fun c3 => ?_)
  · refine v_ldc (pc := 12) cx kcL_7 dL_cell_12 ?_
    refine v_iload_n (pc := 14) cx rfl ga1 dL_cell_14 ?_
    refine v_imul (pc := 15) cx dL_cell_15 ?_
    refine v_bipush (pc := 16) cx (by decide) dL_cell_16 ?_
    refine v_iadd (pc := 18) cx dL_cell_18 ?_
    exact fin _
  · refine v_aload_n (pc := 6) cx rfl ga0 dL_cell_6 ?_
    refine v_iload_n (pc := 7) cx rfl ga1 dL_cell_7 ?_
    refine v_sld (pc := 8) cx hX hb (k) (by omega) dL_cell_8 ?_
    refine v_goto (pc := 9) cx 19 dL_cell_9 rfl ?_
    exact fin _
end
section
/-! the law's first helper: it answers true -/
set_option maxRecDepth 100000 in
set_option maxHeartbeats 4000000 in
theorem c_holds (lc : Launch) (G : Gc) (E : Wd) (nh : Nat) {Ψ : Fs} (h : isX G E Ψ) (hk : okX Ψ) (hp : okP Ψ.1) : CI lc G 6 yL_holds cL_holds 6 .boolean [.ref (gb G + 0)] E nh 0 0 (fun r E' => r = 1 ∧ E' = E) := by
  refine CI.mk (by decide +kernel) rfl (Nat.le_of_ble_eq_true rfl) ?_
  intro X hG hL cx hR hI
  subst hG; subst hL
  show V X E (nh, 0, 0) 0 [some (.ref (gb (fG X) + 0)), none, none, none, none, none] []
  have hx0 := h.1
  obtain ⟨a0, a1, a2, a3, a4⟩ := vA (Ψ := Ψ)
  obtain ⟨nC0, nC1, nC2, nC3, nC4, nC5, nC6, nC8, nC11, nC13, nC20, nC25, nC26⟩ := vC (Ψ := Ψ)
  obtain ⟨y0, y1, y2, y3, y4, y5, y6, y7, y8, y9, y10, y11⟩ := id hk.1.1
  have n9 := vC9 hk hp
  have p16 := hp.2.2.2.2.2
  have hlm := hk.1.2.2.2.2.1
  have hls := hk.1.2.2.1.1
  have hgr := gre_in hk
  have hns := cnt_le (k1 Ψ.1.2.2.2) (Ψ.1.1 18) Ψ.1.2.2.2.length
  have hns2 : nS Ψ ≤ Ψ.1.2.2.2.length := hns
  have fin : ∀ (w4 w5 : Option Value), V X E (nh, 0, 0) 376 [some (.ref (gb (fG X) + 0)), some (.int (iI 1)), some (.int (iI (vCnt Ψ 2))), some (.int (iI (Ψ.1.2.2.2.length : Int))), w4, w5] [] := by
    intro w4 w5
    refine v_iload_n (pc := 376) cx rfl ga1 dL_holds_376 ?_
    refine v_if_eq (pc := 377) cx 415 dL_holds_377 rfl (by omega) (fun c377 => ?_) (fun c377 => ?_)
    · omega
    refine v_iload_n (pc := 380) cx rfl ga3 dL_holds_380 ?_
    refine v_iload_n (pc := 381) cx rfl ga2 dL_holds_381 ?_
    refine v_icmp_ne (pc := 382) cx 415 dL_holds_382 rfl (by omega) (fun c382 => ?_) (fun c382 => ?_)
    · omega
    refine v_iload_n (pc := 385) cx rfl ga2 dL_holds_385 ?_
    refine v_if_ne (pc := 386) cx 393 dL_holds_386 rfl (by omega) (fun c386 => ?_) (fun c386 => ?_)
    · refine v_iconst (pc := 393) cx dL_holds_393 ?_
      refine v_aload_n (pc := 394) cx rfl ga0 dL_holds_394 ?_
      refine v_callVI (pc := 395) cx hR (c_greatestStorm _ _ _ _ h hk) mlL_28 (by decide) hx0 rfl rfl rfl (Nat.le_of_ble_eq_true rfl) ⟨Nat.le_refl _, Nat.le_refl _⟩ dL_holds_395 (fun r395 E395 hP => ?_)
      obtain ⟨rfl, rfl⟩ := hP
      refine v_bipush (pc := 398) cx (by decide) dL_holds_398 ?_
      refine v_icmp_ne (pc := 400) cx 407 dL_holds_400 rfl (by omega) (fun c400 => ?_) (fun c400 => ?_)
      · refine v_iconst (pc := 407) cx dL_holds_407 ?_
        refine v_icmp_ne (pc := 408) cx 415 dL_holds_408 rfl (by omega) (fun c408 => ?_) (fun c408 => ?_)
        · omega
        refine v_iconst (pc := 411) cx dL_holds_411 ?_
        refine v_goto (pc := 412) cx 416 dL_holds_412 rfl ?_
        refine v_ireturn (pc := 416) cx hI rfl ?_ dL_holds_416
        exact ⟨rfl, rfl⟩
      · omega
    · refine v_iconst (pc := 389) cx dL_holds_389 ?_
      refine v_goto (pc := 390) cx 394 dL_holds_390 rfl ?_
      refine v_aload_n (pc := 394) cx rfl ga0 dL_holds_394 ?_
      refine v_callVI (pc := 395) cx hR (c_greatestStorm _ _ _ _ h hk) mlL_28 (by decide) hx0 rfl rfl rfl (Nat.le_of_ble_eq_true rfl) ⟨Nat.le_refl _, Nat.le_refl _⟩ dL_holds_395 (fun r395 E395 hP => ?_)
      obtain ⟨rfl, rfl⟩ := hP
      refine v_bipush (pc := 398) cx (by decide) dL_holds_398 ?_
      refine v_icmp_ne (pc := 400) cx 407 dL_holds_400 rfl (by omega) (fun c400 => ?_) (fun c400 => ?_)
      · omega
      refine v_iconst (pc := 403) cx dL_holds_403 ?_
      refine v_goto (pc := 404) cx 408 dL_holds_404 rfl ?_
      refine v_icmp_ne (pc := 408) cx 415 dL_holds_408 rfl (by omega) (fun c408 => ?_) (fun c408 => ?_)
      · omega
      refine v_iconst (pc := 411) cx dL_holds_411 ?_
      refine v_goto (pc := 412) cx 416 dL_holds_412 rfl ?_
      refine v_ireturn (pc := 416) cx hI rfl ?_ dL_holds_416
      exact ⟨rfl, rfl⟩
  have loop3 : ∀ (d k : Nat) (la : Int), k ≤ Ψ.1.2.1.length → Ψ.1.2.1.length - k < d → (0 ≤ la ∧ la ≤ 5000) → (k < Ψ.1.2.1.length → la ≤ vSho Ψ (k : Int) 0) → V X E (nh, 0, 0) 302 [some (.ref (gb (fG X) + 0)), some (.int (iI 1)), some (.int (iI (vCnt Ψ 2))), some (.int (iI (Ψ.1.2.2.2.length : Int))), some (.int (iI la)), some (.int (iI (k : Int)))] [] := by
    intro d
    induction d with
    | zero => intro k la h1 h2; omega
    | succ d ih =>
      intro k la hk1 hd hla hle
      refine v_iload (pc := 302) cx ga5 dL_holds_302 ?_
      refine v_aload_n (pc := 304) cx rfl ga0 dL_holds_304 ?_
      refine v_iconst (pc := 305) cx dL_holds_305 ?_
      refine v_callVI (pc := 306) cx hR (c_count _ _ _ _ h hk (by omega)) mlL_15 (by decide) hx0 rfl rfl rfl (Nat.le_of_ble_eq_true rfl) ⟨Nat.le_refl _, Nat.le_refl _⟩ dL_holds_306 (fun r306 E306 hP => ?_)
      obtain ⟨rfl, rfl⟩ := hP
      refine v_icmp_ge (pc := 309) cx 376 dL_holds_309 rfl (by omega) (fun c309 => ?_) (fun c309 => ?_)
      · exact fin _ _
      refine v_iload_n (pc := 312) cx rfl ga1 dL_holds_312 ?_
      refine v_if_eq (pc := 313) cx 376 dL_holds_313 rfl (by omega) (fun c313 => ?_) (fun c313 => ?_)
      · omega
      have hkl : k < Ψ.1.2.1.length := by omega
      obtain ⟨s1, s2, s3⟩ := sh_in hk hp hkl
      have hle := hle hkl
      refine v_aload_n (pc := 316) cx rfl ga0 dL_holds_316 ?_
      refine v_iload (pc := 317) cx ga5 dL_holds_317 ?_
      refine v_iconst (pc := 319) cx dL_holds_319 ?_
      refine v_callVI (pc := 320) cx hR (c_shower _ _ _ _ h hk (by omega) (by omega)) mlL_25 (by decide) hx0 rfl rfl rfl (Nat.le_of_ble_eq_true rfl) ⟨Nat.le_refl _, Nat.le_refl _⟩ dL_holds_320 (fun r320 E320 hP => ?_)
      obtain ⟨rfl, rfl⟩ := hP
      refine v_iload (pc := 323) cx ga4 dL_holds_323 ?_
      refine v_icmp_lt (pc := 325) cx 359 dL_holds_325 rfl (by omega) (fun c325 => ?_) (fun c325 => ?_)
      · omega
      refine v_aload_n (pc := 328) cx rfl ga0 dL_holds_328 ?_
      refine v_iload (pc := 329) cx ga5 dL_holds_329 ?_
      refine v_iconst (pc := 331) cx dL_holds_331 ?_
      refine v_callVI (pc := 332) cx hR (c_shower _ _ _ _ h hk (by omega) (by omega)) mlL_25 (by decide) hx0 rfl rfl rfl (Nat.le_of_ble_eq_true rfl) ⟨Nat.le_refl _, Nat.le_refl _⟩ dL_holds_332 (fun r332 E332 hP => ?_)
      obtain ⟨rfl, rfl⟩ := hP
      refine v_if_le (pc := 335) cx 359 dL_holds_335 rfl (by omega) (fun c335 => ?_) (fun c335 => ?_)
      · omega
      refine v_aload_n (pc := 338) cx rfl ga0 dL_holds_338 ?_
      refine v_iload (pc := 339) cx ga5 dL_holds_339 ?_
      refine v_iconst (pc := 341) cx dL_holds_341 ?_
      refine v_callVI (pc := 342) cx hR (c_shower _ _ _ _ h hk (by omega) (by omega)) mlL_25 (by decide) hx0 rfl rfl rfl (Nat.le_of_ble_eq_true rfl) ⟨Nat.le_refl _, Nat.le_refl _⟩ dL_holds_342 (fun r342 E342 hP => ?_)
      obtain ⟨rfl, rfl⟩ := hP
      refine v_aload_n (pc := 345) cx rfl ga0 dL_holds_345 ?_
      refine v_iload (pc := 346) cx ga5 dL_holds_346 ?_
      refine v_iconst (pc := 348) cx dL_holds_348 ?_
      refine v_callVI (pc := 349) cx hR (c_shower _ _ _ _ h hk (by omega) (by omega)) mlL_25 (by decide) hx0 rfl rfl rfl (Nat.le_of_ble_eq_true rfl) ⟨Nat.le_refl _, Nat.le_refl _⟩ dL_holds_349 (fun r349 E349 hP => ?_)
      obtain ⟨rfl, rfl⟩ := hP
      refine v_icmp_gt (pc := 352) cx 359 dL_holds_352 rfl (by omega) (fun c352 => ?_) (fun c352 => ?_)
      · omega
      refine v_iconst (pc := 355) cx dL_holds_355 ?_
      refine v_goto (pc := 356) cx 360 dL_holds_356 rfl ?_
      refine v_istore_n (pc := 360) cx rfl (sa1 rfl) dL_holds_360 ?_
      refine v_aload_n (pc := 361) cx rfl ga0 dL_holds_361 ?_
      refine v_iload (pc := 362) cx ga5 dL_holds_362 ?_
      refine v_iconst (pc := 364) cx dL_holds_364 ?_
      refine v_callVI (pc := 365) cx hR (c_shower _ _ _ _ h hk (by omega) (by omega)) mlL_25 (by decide) hx0 rfl rfl rfl (Nat.le_of_ble_eq_true rfl) ⟨Nat.le_refl _, Nat.le_refl _⟩ dL_holds_365 (fun r365 E365 hP => ?_)
      obtain ⟨rfl, rfl⟩ := hP
      refine v_istore (pc := 368) cx (sa4 rfl) dL_holds_368 ?_
      refine v_iinc (pc := 370) cx ga5 (sa5 rfl) dL_holds_370 ?_
      refine v_goto (pc := 373) cx 302 dL_holds_373 rfl ?_
      exact ih (k + 1) (vSho Ψ (k : Int) 0) (by omega) (by omega) s1 (fun q => (sh_in hk hp q).2.2 k (by omega))
  have loop2 : ∀ (d k : Nat) (w5 : Option Value), k ≤ nS Ψ → nS Ψ - k < d → V X E (nh, 0, 0) 197 [some (.ref (gb (fG X) + 0)), some (.int (iI 1)), some (.int (iI (vCnt Ψ 2))), some (.int (iI (bS2 Ψ k : Int))), some (.int (iI (k : Int))), w5] [] := by
    intro d
    induction d with
    | zero => intro k w5 h1 h2; omega
    | succ d ih =>
      intro k w5 hk1 hd
      refine v_iload (pc := 197) cx ga4 dL_holds_197 ?_
      refine v_aload_n (pc := 199) cx rfl ga0 dL_holds_199 ?_
      refine v_iconst (pc := 200) cx dL_holds_200 ?_
      refine v_callVI (pc := 201) cx hR (c_count _ _ _ _ h hk (by omega)) mlL_15 (by decide) hx0 rfl rfl rfl (Nat.le_of_ble_eq_true rfl) ⟨Nat.le_refl _, Nat.le_refl _⟩ dL_holds_201 (fun r201 E201 hP => ?_)
      obtain ⟨rfl, rfl⟩ := hP
      refine v_icmp_ge (pc := 204) cx 296 dL_holds_204 rfl (by omega) (fun c204 => ?_) (fun c204 => ?_)
      · refine v_iconst (pc := 296) cx dL_holds_296 ?_
        refine v_istore (pc := 297) cx (sa4 rfl) dL_holds_297 ?_
        refine v_iconst (pc := 299) cx dL_holds_299 ?_
        refine v_istore (pc := 300) cx (sa5 rfl) dL_holds_300 ?_
        have e : bS2 Ψ k = Ψ.1.2.2.2.length := by
          have : k = nS Ψ := by omega
          subst this
          exact sF_n
        rw [e]
        exact loop3 (Ψ.1.2.1.length + 1) 0 0 (Nat.zero_le _) (by omega) ⟨by omega, by omega⟩ (fun q => (sh_in hk hp q).1.1)
      refine v_iload_n (pc := 207) cx rfl ga1 dL_holds_207 ?_
      refine v_if_eq (pc := 208) cx 296 dL_holds_208 rfl (by omega) (fun c208 => ?_) (fun c208 => ?_)
      · omega
      have hkn : k < nS Ψ := by omega
      obtain ⟨t0, t1, t5, t3, t3b, tlt, t60⟩ := sto_in hk hkn
      rw [← nC20] at t3
      refine v_aload_n (pc := 211) cx rfl ga0 dL_holds_211 ?_
      refine v_iload (pc := 212) cx ga4 dL_holds_212 ?_
      refine v_iconst (pc := 214) cx dL_holds_214 ?_
      refine v_callVI (pc := 215) cx hR (c_storm _ _ _ _ h hk (by omega) (by omega)) mlL_22 (by decide) hx0 rfl rfl rfl (Nat.le_of_ble_eq_true rfl) ⟨Nat.le_refl _, Nat.le_refl _⟩ dL_holds_215 (fun r215 E215 hP => ?_)
      obtain ⟨rfl, rfl⟩ := hP
      refine v_iload_n (pc := 218) cx rfl ga3 dL_holds_218 ?_
      refine v_icmp_ne (pc := 219) cx 278 dL_holds_219 rfl (by omega) (fun c219 => ?_) (fun c219 => ?_)
      · omega
      refine v_aload_n (pc := 222) cx rfl ga0 dL_holds_222 ?_
      refine v_iload (pc := 223) cx ga4 dL_holds_223 ?_
      refine v_iconst (pc := 225) cx dL_holds_225 ?_
      refine v_callVI (pc := 226) cx hR (c_storm _ _ _ _ h hk (by omega) (by omega)) mlL_22 (by decide) hx0 rfl rfl rfl (Nat.le_of_ble_eq_true rfl) ⟨Nat.le_refl _, Nat.le_refl _⟩ dL_holds_226 (fun r226 E226 hP => ?_)
      obtain ⟨rfl, rfl⟩ := hP
      refine v_iconst (pc := 229) cx dL_holds_229 ?_
      refine v_icmp_lt (pc := 230) cx 278 dL_holds_230 rfl (by omega) (fun c230 => ?_) (fun c230 => ?_)
      · omega
      refine v_aload_n (pc := 233) cx rfl ga0 dL_holds_233 ?_
      refine v_iload (pc := 234) cx ga4 dL_holds_234 ?_
      refine v_iconst (pc := 236) cx dL_holds_236 ?_
      refine v_callVI (pc := 237) cx hR (c_storm _ _ _ _ h hk (by omega) (by omega)) mlL_22 (by decide) hx0 rfl rfl rfl (Nat.le_of_ble_eq_true rfl) ⟨Nat.le_refl _, Nat.le_refl _⟩ dL_holds_237 (fun r237 E237 hP => ?_)
      obtain ⟨rfl, rfl⟩ := hP
      refine v_aload_n (pc := 240) cx rfl ga0 dL_holds_240 ?_
      refine v_iload (pc := 241) cx ga4 dL_holds_241 ?_
      refine v_iconst (pc := 243) cx dL_holds_243 ?_
      refine v_callVI (pc := 244) cx hR (c_storm _ _ _ _ h hk (by omega) (by omega)) mlL_22 (by decide) hx0 rfl rfl rfl (Nat.le_of_ble_eq_true rfl) ⟨Nat.le_refl _, Nat.le_refl _⟩ dL_holds_244 (fun r244 E244 hP => ?_)
      obtain ⟨rfl, rfl⟩ := hP
      refine v_icmp_gt (pc := 247) cx 278 dL_holds_247 rfl (by omega) (fun c247 => ?_) (fun c247 => ?_)
      · omega
      refine v_aload_n (pc := 250) cx rfl ga0 dL_holds_250 ?_
      refine v_iload (pc := 251) cx ga4 dL_holds_251 ?_
      refine v_iconst (pc := 253) cx dL_holds_253 ?_
      refine v_callVI (pc := 254) cx hR (c_storm _ _ _ _ h hk (by omega) (by omega)) mlL_22 (by decide) hx0 rfl rfl rfl (Nat.le_of_ble_eq_true rfl) ⟨Nat.le_refl _, Nat.le_refl _⟩ dL_holds_254 (fun r254 E254 hP => ?_)
      obtain ⟨rfl, rfl⟩ := hP
      refine v_aload_n (pc := 257) cx rfl ga0 dL_holds_257 ?_
      refine v_iload (pc := 258) cx ga4 dL_holds_258 ?_
      refine v_iconst (pc := 260) cx dL_holds_260 ?_
      refine v_callVI (pc := 261) cx hR (c_storm _ _ _ _ h hk (by omega) (by omega)) mlL_22 (by decide) hx0 rfl rfl rfl (Nat.le_of_ble_eq_true rfl) ⟨Nat.le_refl _, Nat.le_refl _⟩ dL_holds_261 (fun r261 E261 hP => ?_)
      obtain ⟨rfl, rfl⟩ := hP
      refine v_aload_n (pc := 264) cx rfl ga0 dL_holds_264 ?_
      refine v_bipush (pc := 265) cx (by decide) dL_holds_265 ?_
      refine v_callVI (pc := 267) cx hR (c_count _ _ _ _ h hk (by omega)) mlL_15 (by decide) hx0 rfl rfl rfl (Nat.le_of_ble_eq_true rfl) ⟨Nat.le_refl _, Nat.le_refl _⟩ dL_holds_267 (fun r267 E267 hP => ?_)
      obtain ⟨rfl, rfl⟩ := hP
      refine v_imul (pc := 270) cx dL_holds_270 ?_
      refine v_icmp_ne (pc := 271) cx 278 dL_holds_271 rfl (by omega) (fun c271 => ?_) (fun c271 => ?_)
      · omega
      refine v_iconst (pc := 274) cx dL_holds_274 ?_
      refine v_goto (pc := 275) cx 279 dL_holds_275 rfl ?_
      refine v_istore_n (pc := 279) cx rfl (sa1 rfl) dL_holds_279 ?_
      refine v_iload_n (pc := 280) cx rfl ga3 dL_holds_280 ?_
      refine v_aload_n (pc := 281) cx rfl ga0 dL_holds_281 ?_
      refine v_iload (pc := 282) cx ga4 dL_holds_282 ?_
      refine v_iconst (pc := 284) cx dL_holds_284 ?_
      refine v_callVI (pc := 285) cx hR (c_storm _ _ _ _ h hk (by omega) (by omega)) mlL_22 (by decide) hx0 rfl rfl rfl (Nat.le_of_ble_eq_true rfl) ⟨Nat.le_refl _, Nat.le_refl _⟩ dL_holds_285 (fun r285 E285 hP => ?_)
      obtain ⟨rfl, rfl⟩ := hP
      refine v_iadd (pc := 288) cx dL_holds_288 ?_
      refine v_istore_n (pc := 289) cx rfl (sa3 rfl) dL_holds_289 ?_
      refine v_iinc (pc := 290) cx ga4 (sa4 rfl) dL_holds_290 ?_
      refine v_goto (pc := 293) cx 197 dL_holds_293 rfl ?_
      rw [show (bS2 Ψ k : Int) + vSto Ψ (k : Int) 1 = (bS2 Ψ (k + 1) : Int) by omega]
      exact ih (k + 1) w5 (by omega) (by omega)
  have loop1 : ∀ (d k : Nat) (w5 : Option Value), 1 ≤ k ∧ k ≤ 100 → 100 - k < d → V X E (nh, 0, 0) 128 [some (.ref (gb (fG X) + 0)), some (.int (iI 1)), some (.int (iI (vCnt Ψ 2))), some (.int (iI 0)), some (.int (iI (k : Int))), w5] [] := by
    intro d
    induction d with
    | zero => intro k w5 h1 h2; omega
    | succ d ih =>
      intro k w5 hk1 hd
      refine v_iload (pc := 128) cx ga4 dL_holds_128 ?_
      refine v_iload_n (pc := 130) cx rfl ga2 dL_holds_130 ?_
      refine v_icmp_ge (pc := 131) cx 194 dL_holds_131 rfl (by omega) (fun c131 => ?_) (fun c131 => ?_)
      · refine v_iconst (pc := 194) cx dL_holds_194 ?_
        refine v_istore (pc := 195) cx (sa4 rfl) dL_holds_195 ?_
        have e0 : bS2 Ψ 0 = 0 := sF_0
        have l2 := loop2 (nS Ψ + 1) 0 w5 (Nat.zero_le _) (by omega)
        rw [e0] at l2
        exact l2
      refine v_iload_n (pc := 134) cx rfl ga1 dL_holds_134 ?_
      refine v_if_eq (pc := 135) cx 194 dL_holds_135 rfl (by omega) (fun c135 => ?_) (fun c135 => ?_)
      · omega
      have hkn : k < Ψ.1.2.2.2.length := by omega
      obtain ⟨m1, m2, m3⟩ := mk_in hk hp hkn
      have e1 : ((k - 1 : Nat) : Int) = (k : Int) - 1 := by omega
      have m4 := m3 (k - 1) (by omega)
      have m5 := (mk_in hk hp (show k - 1 < Ψ.1.2.2.2.length by omega)).1
      rw [e1] at m4 m5
      refine v_aload_n (pc := 138) cx rfl ga0 dL_holds_138 ?_
      refine v_iload (pc := 139) cx ga4 dL_holds_139 ?_
      refine v_iconst (pc := 141) cx dL_holds_141 ?_
      refine v_callVI (pc := 142) cx hR (c_mark _ _ _ _ h hk (by omega) (by omega)) mlL_18 (by decide) hx0 rfl rfl rfl (Nat.le_of_ble_eq_true rfl) ⟨Nat.le_refl _, Nat.le_refl _⟩ dL_holds_142 (fun r142 E142 hP => ?_)
      obtain ⟨rfl, rfl⟩ := hP
      refine v_aload_n (pc := 145) cx rfl ga0 dL_holds_145 ?_
      refine v_iload (pc := 146) cx ga4 dL_holds_146 ?_
      refine v_iconst (pc := 148) cx dL_holds_148 ?_
      refine v_isub (pc := 149) cx dL_holds_149 ?_
      refine v_iconst (pc := 150) cx dL_holds_150 ?_
      refine v_callVI (pc := 151) cx hR (c_mark _ _ _ _ h hk (by omega) (by omega)) mlL_18 (by decide) hx0 rfl rfl rfl (Nat.le_of_ble_eq_true rfl) ⟨Nat.le_refl _, Nat.le_refl _⟩ dL_holds_151 (fun r151 E151 hP => ?_)
      obtain ⟨rfl, rfl⟩ := hP
      refine v_icmp_le (pc := 154) cx 186 dL_holds_154 rfl (by omega) (fun c154 => ?_) (fun c154 => ?_)
      · omega
      refine v_aload_n (pc := 157) cx rfl ga0 dL_holds_157 ?_
      refine v_iload (pc := 158) cx ga4 dL_holds_158 ?_
      refine v_iconst (pc := 160) cx dL_holds_160 ?_
      refine v_callVI (pc := 161) cx hR (c_mark _ _ _ _ h hk (by omega) (by omega)) mlL_18 (by decide) hx0 rfl rfl rfl (Nat.le_of_ble_eq_true rfl) ⟨Nat.le_refl _, Nat.le_refl _⟩ dL_holds_161 (fun r161 E161 hP => ?_)
      obtain ⟨rfl, rfl⟩ := hP
      refine v_aload_n (pc := 164) cx rfl ga0 dL_holds_164 ?_
      refine v_iconst (pc := 165) cx dL_holds_165 ?_
      refine v_callVI (pc := 166) cx hR (c_count _ _ _ _ h hk (by omega)) mlL_15 (by decide) hx0 rfl rfl rfl (Nat.le_of_ble_eq_true rfl) ⟨Nat.le_refl _, Nat.le_refl _⟩ dL_holds_166 (fun r166 E166 hP => ?_)
      obtain ⟨rfl, rfl⟩ := hP
      refine v_icmp_ge (pc := 169) cx 186 dL_holds_169 rfl (by omega) (fun c169 => ?_) (fun c169 => ?_)
      · omega
      refine v_aload_n (pc := 172) cx rfl ga0 dL_holds_172 ?_
      refine v_iload (pc := 173) cx ga4 dL_holds_173 ?_
      refine v_iconst (pc := 175) cx dL_holds_175 ?_
      refine v_callVI (pc := 176) cx hR (c_mark _ _ _ _ h hk (by omega) (by omega)) mlL_18 (by decide) hx0 rfl rfl rfl (Nat.le_of_ble_eq_true rfl) ⟨Nat.le_refl _, Nat.le_refl _⟩ dL_holds_176 (fun r176 E176 hP => ?_)
      obtain ⟨rfl, rfl⟩ := hP
      refine v_if_lt (pc := 179) cx 186 dL_holds_179 rfl (by omega) (fun c179 => ?_) (fun c179 => ?_)
      · omega
      refine v_iconst (pc := 182) cx dL_holds_182 ?_
      refine v_goto (pc := 183) cx 187 dL_holds_183 rfl ?_
      refine v_istore_n (pc := 187) cx rfl (sa1 rfl) dL_holds_187 ?_
      refine v_iinc (pc := 188) cx ga4 (sa4 rfl) dL_holds_188 ?_
      refine v_goto (pc := 191) cx 128 dL_holds_191 rfl ?_
      exact ih (k + 1) w5 (by omega) (by omega)
  refine v_aload_n (pc := 0) cx rfl ga0 dL_holds_0 ?_
  refine v_iconst (pc := 1) cx dL_holds_1 ?_
  refine v_callVI (pc := 2) cx hR (c_account _ _ _ _ h hk (by omega)) mlL_9 (by decide) hx0 rfl rfl rfl (Nat.le_of_ble_eq_true rfl) ⟨Nat.le_refl _, Nat.le_refl _⟩ dL_holds_2 (fun r2 E2 hP => ?_)
  obtain ⟨rfl, rfl⟩ := hP
  refine v_aload_n (pc := 5) cx rfl ga0 dL_holds_5 ?_
  refine v_iconst (pc := 6) cx dL_holds_6 ?_
  refine v_callVI (pc := 7) cx hR (c_account _ _ _ _ h hk (by omega)) mlL_9 (by decide) hx0 rfl rfl rfl (Nat.le_of_ble_eq_true rfl) ⟨Nat.le_refl _, Nat.le_refl _⟩ dL_holds_7 (fun r7 E7 hP => ?_)
  obtain ⟨rfl, rfl⟩ := hP
  refine v_aload_n (pc := 10) cx rfl ga0 dL_holds_10 ?_
  refine v_iconst (pc := 11) cx dL_holds_11 ?_
  refine v_callVI (pc := 12) cx hR (c_account _ _ _ _ h hk (by omega)) mlL_9 (by decide) hx0 rfl rfl rfl (Nat.le_of_ble_eq_true rfl) ⟨Nat.le_refl _, Nat.le_refl _⟩ dL_holds_12 (fun r12 E12 hP => ?_)
  obtain ⟨rfl, rfl⟩ := hP
  refine v_iadd (pc := 15) cx dL_holds_15 ?_
  refine v_aload_n (pc := 16) cx rfl ga0 dL_holds_16 ?_
  refine v_iconst (pc := 17) cx dL_holds_17 ?_
  refine v_callVI (pc := 18) cx hR (c_account _ _ _ _ h hk (by omega)) mlL_9 (by decide) hx0 rfl rfl rfl (Nat.le_of_ble_eq_true rfl) ⟨Nat.le_refl _, Nat.le_refl _⟩ dL_holds_18 (fun r18 E18 hP => ?_)
  obtain ⟨rfl, rfl⟩ := hP
  refine v_iadd (pc := 21) cx dL_holds_21 ?_
  refine v_aload_n (pc := 22) cx rfl ga0 dL_holds_22 ?_
  refine v_iconst (pc := 23) cx dL_holds_23 ?_
  refine v_callVI (pc := 24) cx hR (c_account _ _ _ _ h hk (by omega)) mlL_9 (by decide) hx0 rfl rfl rfl (Nat.le_of_ble_eq_true rfl) ⟨Nat.le_refl _, Nat.le_refl _⟩ dL_holds_24 (fun r24 E24 hP => ?_)
  obtain ⟨rfl, rfl⟩ := hP
  refine v_iadd (pc := 27) cx dL_holds_27 ?_
  refine v_aload_n (pc := 28) cx rfl ga0 dL_holds_28 ?_
  refine v_iconst (pc := 29) cx dL_holds_29 ?_
  refine v_callVI (pc := 30) cx hR (c_count _ _ _ _ h hk (by omega)) mlL_15 (by decide) hx0 rfl rfl rfl (Nat.le_of_ble_eq_true rfl) ⟨Nat.le_refl _, Nat.le_refl _⟩ dL_holds_30 (fun r30 E30 hP => ?_)
  obtain ⟨rfl, rfl⟩ := hP
  refine v_iadd (pc := 33) cx dL_holds_33 ?_
  refine v_aload_n (pc := 34) cx rfl ga0 dL_holds_34 ?_
  refine v_iconst (pc := 35) cx dL_holds_35 ?_
  refine v_callVI (pc := 36) cx hR (c_count _ _ _ _ h hk (by omega)) mlL_15 (by decide) hx0 rfl rfl rfl (Nat.le_of_ble_eq_true rfl) ⟨Nat.le_refl _, Nat.le_refl _⟩ dL_holds_36 (fun r36 E36 hP => ?_)
  obtain ⟨rfl, rfl⟩ := hP
  refine v_iadd (pc := 39) cx dL_holds_39 ?_
  refine v_icmp_ne (pc := 40) cx 47 dL_holds_40 rfl (by omega) (fun c40 => ?_) (fun c40 => ?_)
  · omega
  refine v_iconst (pc := 43) cx dL_holds_43 ?_
  refine v_goto (pc := 44) cx 48 dL_holds_44 rfl ?_
  refine v_istore_n (pc := 48) cx rfl (sa1 rfl) dL_holds_48 ?_
  refine v_iload_n (pc := 49) cx rfl ga1 dL_holds_49 ?_
  refine v_if_eq (pc := 50) cx 115 dL_holds_50 rfl (by omega) (fun c50 => ?_) (fun c50 => ?_)
  · omega
  refine v_aload_n (pc := 53) cx rfl ga0 dL_holds_53 ?_
  refine v_bipush (pc := 54) cx (by decide) dL_holds_54 ?_
  refine v_callVI (pc := 56) cx hR (c_count _ _ _ _ h hk (by omega)) mlL_15 (by decide) hx0 rfl rfl rfl (Nat.le_of_ble_eq_true rfl) ⟨Nat.le_refl _, Nat.le_refl _⟩ dL_holds_56 (fun r56 E56 hP => ?_)
  obtain ⟨rfl, rfl⟩ := hP
  refine v_if_lt (pc := 59) cx 115 dL_holds_59 rfl (by omega) (fun c59 => ?_) (fun c59 => ?_)
  · omega
  refine v_aload_n (pc := 62) cx rfl ga0 dL_holds_62 ?_
  refine v_bipush (pc := 63) cx (by decide) dL_holds_63 ?_
  refine v_callVI (pc := 65) cx hR (c_count _ _ _ _ h hk (by omega)) mlL_15 (by decide) hx0 rfl rfl rfl (Nat.le_of_ble_eq_true rfl) ⟨Nat.le_refl _, Nat.le_refl _⟩ dL_holds_65 (fun r65 E65 hP => ?_)
  obtain ⟨rfl, rfl⟩ := hP
  refine v_bipush (pc := 68) cx (by decide) dL_holds_68 ?_
  refine v_icmp_gt (pc := 70) cx 115 dL_holds_70 rfl (by omega) (fun c70 => ?_) (fun c70 => ?_)
  · omega
  refine v_aload_n (pc := 73) cx rfl ga0 dL_holds_73 ?_
  refine v_bipush (pc := 74) cx (by decide) dL_holds_74 ?_
  refine v_callVI (pc := 76) cx hR (c_count _ _ _ _ h hk (by omega)) mlL_15 (by decide) hx0 rfl rfl rfl (Nat.le_of_ble_eq_true rfl) ⟨Nat.le_refl _, Nat.le_refl _⟩ dL_holds_76 (fun r76 E76 hP => ?_)
  obtain ⟨rfl, rfl⟩ := hP
  refine v_if_lt (pc := 79) cx 115 dL_holds_79 rfl (by omega) (fun c79 => ?_) (fun c79 => ?_)
  · omega
  refine v_aload_n (pc := 82) cx rfl ga0 dL_holds_82 ?_
  refine v_bipush (pc := 83) cx (by decide) dL_holds_83 ?_
  refine v_callVI (pc := 85) cx hR (c_count _ _ _ _ h hk (by omega)) mlL_15 (by decide) hx0 rfl rfl rfl (Nat.le_of_ble_eq_true rfl) ⟨Nat.le_refl _, Nat.le_refl _⟩ dL_holds_85 (fun r85 E85 hP => ?_)
  obtain ⟨rfl, rfl⟩ := hP
  refine v_aload_n (pc := 88) cx rfl ga0 dL_holds_88 ?_
  refine v_bipush (pc := 89) cx (by decide) dL_holds_89 ?_
  refine v_callVI (pc := 91) cx hR (c_count _ _ _ _ h hk (by omega)) mlL_15 (by decide) hx0 rfl rfl rfl (Nat.le_of_ble_eq_true rfl) ⟨Nat.le_refl _, Nat.le_refl _⟩ dL_holds_91 (fun r91 E91 hP => ?_)
  obtain ⟨rfl, rfl⟩ := hP
  refine v_icmp_ge (pc := 94) cx 115 dL_holds_94 rfl (by omega) (fun c94 => ?_) (fun c94 => ?_)
  · omega
  refine v_aload_n (pc := 97) cx rfl ga0 dL_holds_97 ?_
  refine v_bipush (pc := 98) cx (by decide) dL_holds_98 ?_
  refine v_callVI (pc := 100) cx hR (c_count _ _ _ _ h hk (by omega)) mlL_15 (by decide) hx0 rfl rfl rfl (Nat.le_of_ble_eq_true rfl) ⟨Nat.le_refl _, Nat.le_refl _⟩ dL_holds_100 (fun r100 E100 hP => ?_)
  obtain ⟨rfl, rfl⟩ := hP
  refine v_aload_n (pc := 103) cx rfl ga0 dL_holds_103 ?_
  refine v_iconst (pc := 104) cx dL_holds_104 ?_
  refine v_callVI (pc := 105) cx hR (c_count _ _ _ _ h hk (by omega)) mlL_15 (by decide) hx0 rfl rfl rfl (Nat.le_of_ble_eq_true rfl) ⟨Nat.le_refl _, Nat.le_refl _⟩ dL_holds_105 (fun r105 E105 hP => ?_)
  obtain ⟨rfl, rfl⟩ := hP
  refine v_icmp_gt (pc := 108) cx 115 dL_holds_108 rfl (by omega) (fun c108 => ?_) (fun c108 => ?_)
  · omega
  refine v_iconst (pc := 111) cx dL_holds_111 ?_
  refine v_goto (pc := 112) cx 116 dL_holds_112 rfl ?_
  refine v_istore_n (pc := 116) cx rfl (sa1 rfl) dL_holds_116 ?_
  refine v_aload_n (pc := 117) cx rfl ga0 dL_holds_117 ?_
  refine v_iconst (pc := 118) cx dL_holds_118 ?_
  refine v_callVI (pc := 119) cx hR (c_count _ _ _ _ h hk (by omega)) mlL_15 (by decide) hx0 rfl rfl rfl (Nat.le_of_ble_eq_true rfl) ⟨Nat.le_refl _, Nat.le_refl _⟩ dL_holds_119 (fun r119 E119 hP => ?_)
  obtain ⟨rfl, rfl⟩ := hP
  refine v_istore_n (pc := 122) cx rfl (sa2 rfl) dL_holds_122 ?_
  refine v_iconst (pc := 123) cx dL_holds_123 ?_
  refine v_istore_n (pc := 124) cx rfl (sa3 rfl) dL_holds_124 ?_
  refine v_iconst (pc := 125) cx dL_holds_125 ?_
  refine v_istore (pc := 126) cx (sa4 rfl) dL_holds_126 ?_
  exact loop1 100 1 none ⟨Nat.le_refl _, by omega⟩ (by omega)
end
section
/-! the law's second helper: ticks in one call or in two -/
def aV (Φ : Fs) (j : Nat) : Int := if j < 5 then vAcc Φ j else if j < 11 then vCnt Φ ((j : Int) - 1) else vCnt Φ 2
theorem aV_1 {Ψ Φ : Fs} (h : Ψ.1 = Φ.1) (j : Nat) (hj : j < 12) : aV Ψ j = aV Φ j := by
  unfold aV
  rw [vAcc_1 h, vCnt_1 h (w := (j : Int) - 1) (by omega) (by omega), vCnt_1 h (w := 2) (by omega) (by omega)]
theorem aV_bd {Φ : Fs} {j : Nat} : (j < 5 → vAcc Φ j = aV Φ j) ∧ (¬ j < 5 → j < 11 → vCnt Φ ((j : Int) - 1) = aV Φ j) ∧ (¬ j < 5 → ¬ j < 11 → vCnt Φ 2 = aV Φ j) := by
  unfold aV
  refine ⟨fun h => by rw [if_pos h], fun h1 h2 => by rw [if_neg h1, if_pos h2], fun h1 h2 => by rw [if_neg h1, if_neg h2]⟩
theorem okX_run {Ψ : Fs} {k : Nat} (hk : okX Ψ) (h1 : 1 ≤ k ∧ k ≤ 1000) (h2 : Ψ.1.1 0 + k ≤ 5000) : okX (ticks Ψ.1 k, keepH Ψ.2.1 Ψ.1, Ψ.2.2) := by
  have := kX_run (k := (k : Int)) hk
  rwa [(run_in h1 h2).2] at this
theorem okX_und {σ σ' : Sg} {hs : List Sg} {tx : List Int} (hk : okX (σ', keepH hs σ, tx)) : okX (σ, (keepH hs σ).dropLast, tx) := by
  have := kX_und hk
  rwa [und_keep] at this
set_option maxRecDepth 100000 in
set_option maxHeartbeats 4000000 in
theorem c_parted (lc : Launch) (G : Gc) (E : Wd) (nh : Nat) {Ψ : Fs} {T p : Nat} (h : isX G E Ψ) (hk : okX Ψ) (hp : okP Ψ.1) (hT : 1 ≤ T ∧ T ≤ 1000 ∧ p ≤ T) (ht : Ψ.1.1 0 + T ≤ 5000) (hn : 124 ≤ nh) : CI lc G 7 yL_parted cL_parted 9 .boolean [.ref (gb G + 0), .int (iI (T : Int)), .int (iI (p : Int))] E nh 1 12 (fun r E' => r = 1 ∧ ∃ hs', isX G E' (ticks Ψ.1 T, hs', Ψ.2.2) ∧ okX (ticks Ψ.1 T, hs', Ψ.2.2)) := by
  refine CI.mk (by decide +kernel) rfl (Nat.le_of_ble_eq_true rfl) ?_
  intro X hG hL cx hR hI
  subst hG; subst hL
  show V X E (nh, 0, 0) 0 [some (.ref (gb (fG X) + 0)), some (.int (iI (T : Int))), some (.int (iI (p : Int))), none, none, none, none, none, none] []
  have hx0 := h.1
  have tb := tips_le (σ := Ψ.1) T
  obtain ⟨er, es⟩ := run_in (Ψ := Ψ) (k := T) ⟨hT.1, hT.2.1⟩ ht
  have hk1 := okX_run hk ⟨hT.1, hT.2.1⟩ ht
  have hp1 := okP_ticks hk.1 hp T ht
  obtain ⟨Φ, hΦ⟩ : ∃ Φ : Fs, Φ = (ticks Ψ.1 T, keepH Ψ.2.1 Ψ.1, Ψ.2.2) := ⟨_, rfl⟩
  rw [← hΦ] at hk1 es
  have hΦ1 : Φ.1 = ticks Ψ.1 T := by rw [hΦ]
  rw [← hΦ1] at hp1
  have comp : ∀ (E : Wd) (Θ : Fs) (g : Nat → Int) (w6 w7 : Int), isX (fG X) E Θ → okX Θ → Θ.1 = ticks Ψ.1 T → Θ.2.2 = Ψ.2.2 → E nh = some (AI (fG X) 12 g) → (∀ j, j < 12 → g j = aV Φ j) → ∀ (d k : Nat), k ≤ 12 → 12 - k < d → V X E (nh + 1, 0 + 1, 0 + 12) 178 [some (.ref (gb (fG X) + 0)), some (.int (iI (T : Int))), some (.int (iI (p : Int))), some (.int (iI (tips Ψ.1 T : Int))), some (.ref (gb (fG X) + nh)), some (.int (iI 1)), some (.int (iI w6)), some (.int (iI w7)), some (.int (iI (k : Int)))] [] := by
    intro E Θ g w6 w7 hx hkΘ h1 h2 hA hg d
    have hx0 := hx.1
    induction d with
    | zero => intro k h1 h2; omega
    | succ d ih =>
      intro k hk12 hd
      refine v_iload (pc := 178) cx ga8 dL_parted_178 ?_
      refine v_bipush (pc := 180) cx (by decide) dL_parted_180 ?_
      refine v_icmp_ge (pc := 182) cx 249 dL_parted_182 rfl (by omega) (fun c182 => ?_) (fun c182 => ?_)
      · refine v_iload (pc := 249) cx ga5 dL_parted_249 ?_
        refine v_ireturn (pc := 251) cx hI rfl ?_ dL_parted_251
        refine ⟨rfl, Θ.2.1, ?_⟩
        rw [← h1, ← h2]
        exact ⟨hx, hkΘ⟩
      refine v_iload (pc := 185) cx ga5 dL_parted_185 ?_
      refine v_if_eq (pc := 187) cx 249 dL_parted_187 rfl (by omega) (fun c187 => ?_) (fun c187 => ?_)
      · omega
      have hj : k < 12 := by omega
      obtain ⟨v1, v2, v3⟩ := aV_bd (Φ := Θ) (j := k)
      have e12 : aV Θ k = aV Φ k := aV_1 (by rw [h1, hΦ1]) k hj
      have cmp : ∀ x : Int, x = aV Θ k → V X E (nh + 1, 0 + 1, 0 + 12) 233 [some (.ref (gb (fG X) + 0)), some (.int (iI (T : Int))), some (.int (iI (p : Int))), some (.int (iI (tips Ψ.1 T : Int))), some (.ref (gb (fG X) + nh)), some (.int (iI 1)), some (.int (iI w6)), some (.int (iI w7)), some (.int (iI (k : Int)))] [.int (iI x), .int (iI (g k))] := by
        intro x hx
        rw [hx, hg k hj, e12]
        refine v_same (pc := 233) cx dL_parted_233 240 rfl ?_
        refine v_iconst (pc := 236) cx dL_parted_236 ?_
        refine v_goto (pc := 237) cx 241 dL_parted_237 rfl ?_
        refine v_istore (pc := 241) cx (sa5 rfl) dL_parted_241 ?_
        refine v_iinc (pc := 243) cx ga8 (sa8 rfl) dL_parted_243 ?_
        refine v_goto (pc := 246) cx 178 dL_parted_246 rfl ?_
        exact ih (k + 1) (by omega) (by omega)
      refine v_aload (pc := 190) cx ga4 dL_parted_190 ?_
      refine v_iload (pc := 192) cx ga8 dL_parted_192 ?_
      refine v_iaload (pc := 194) cx (k) (by assumption) (by omega) dL_parted_194 ?_
      refine v_iload (pc := 195) cx ga8 dL_parted_195 ?_
      refine v_iconst (pc := 197) cx dL_parted_197 ?_
      refine v_icmp_ge (pc := 198) cx 210 dL_parted_198 rfl (by omega) (fun c198 => ?_) (fun c198 => ?_)
      · refine v_iload (pc := 210) cx ga8 dL_parted_210 ?_
        refine v_bipush (pc := 212) cx (by decide) dL_parted_212 ?_
        refine v_icmp_ge (pc := 214) cx 228 dL_parted_214 rfl (by omega) (fun c214 => ?_) (fun c214 => ?_)
        · refine v_aload_n (pc := 228) cx rfl ga0 dL_parted_228 ?_
          refine v_iconst (pc := 229) cx dL_parted_229 ?_
          refine v_callVI (pc := 230) cx hR (c_count _ _ _ _ hx hkΘ (by omega)) mlL_15 (by decide) hx0 rfl rfl rfl (Nat.le_of_ble_eq_true rfl) ⟨Nat.le_refl _, Nat.le_refl _⟩ dL_parted_230 (fun r230 E230 hP => ?_)
          obtain ⟨rfl, rfl⟩ := hP
          exact cmp _ (v3 (by omega) (by omega))
        · refine v_aload_n (pc := 217) cx rfl ga0 dL_parted_217 ?_
          refine v_iload (pc := 218) cx ga8 dL_parted_218 ?_
          refine v_iconst (pc := 220) cx dL_parted_220 ?_
          refine v_isub (pc := 221) cx dL_parted_221 ?_
          refine v_callVI (pc := 222) cx hR (c_count _ _ _ _ hx hkΘ (by omega)) mlL_15 (by decide) hx0 rfl rfl rfl (Nat.le_of_ble_eq_true rfl) ⟨Nat.le_refl _, Nat.le_refl _⟩ dL_parted_222 (fun r222 E222 hP => ?_)
          obtain ⟨rfl, rfl⟩ := hP
          refine v_goto (pc := 225) cx 233 dL_parted_225 rfl ?_
          exact cmp _ (v2 (by omega) (by omega))
      · refine v_aload_n (pc := 201) cx rfl ga0 dL_parted_201 ?_
        refine v_iload (pc := 202) cx ga8 dL_parted_202 ?_
        refine v_callVI (pc := 204) cx hR (c_account _ _ _ _ hx hkΘ (by omega)) mlL_9 (by decide) hx0 rfl rfl rfl (Nat.le_of_ble_eq_true rfl) ⟨Nat.le_refl _, Nat.le_refl _⟩ dL_parted_204 (fun r204 E204 hP => ?_)
        obtain ⟨rfl, rfl⟩ := hP
        refine v_goto (pc := 207) cx 233 dL_parted_207 rfl ?_
        exact cmp _ (v1 (by omega))
  have two : ∀ (E : Wd) (Θ : Fs) (g : Nat → Int) (tw : Int), isX (fG X) E Θ → okX Θ → Θ.1 = ticks Ψ.1 T → Θ.2.2 = Ψ.2.2 → E nh = some (AI (fG X) 12 g) → (∀ j, j < 12 → g j = aV Φ j) → (0 ≤ tw ∧ (tips Ψ.1 p : Int) + tw = tips Ψ.1 T) → V X E (nh + 1, 0 + 1, 0 + 12) 152 [some (.ref (gb (fG X) + 0)), some (.int (iI (T : Int))), some (.int (iI (p : Int))), some (.int (iI (tips Ψ.1 T : Int))), some (.ref (gb (fG X) + nh)), some (.int (iI 1)), some (.int (iI (tips Ψ.1 p : Int))), none, none] [.int (iI tw)] := by
    intro E Θ g tw hx hkΘ h1 h2 hA hg htw
    refine v_istore (pc := 152) cx (sa7 rfl) dL_parted_152 ?_
    refine v_iload (pc := 154) cx ga5 dL_parted_154 ?_
    refine v_if_eq (pc := 156) cx 172 dL_parted_156 rfl (by omega) (fun c156 => ?_) (fun c156 => ?_)
    · omega
    refine v_iload (pc := 159) cx ga6 dL_parted_159 ?_
    refine v_iload (pc := 161) cx ga7 dL_parted_161 ?_
    refine v_iadd (pc := 163) cx dL_parted_163 ?_
    refine v_iload_n (pc := 164) cx rfl ga3 dL_parted_164 ?_
    refine v_icmp_ne (pc := 165) cx 172 dL_parted_165 rfl (by omega) (fun c165 => ?_) (fun c165 => ?_)
    · omega
    refine v_iconst (pc := 168) cx dL_parted_168 ?_
    refine v_goto (pc := 169) cx 173 dL_parted_169 rfl ?_
    refine v_istore (pc := 173) cx (sa5 rfl) dL_parted_173 ?_
    refine v_iconst (pc := 175) cx dL_parted_175 ?_
    refine v_istore (pc := 176) cx (sa8 rfl) dL_parted_176 ?_
    exact comp E Θ g _ _ hx hkΘ h1 h2 hA hg 13 0 (by omega) (by omega)
  have one : ∀ (E : Wd) (hs1 : List Sg) (g : Nat → Int), isX (fG X) E (ticks Ψ.1 p, hs1, Ψ.2.2) → okX (ticks Ψ.1 p, hs1, Ψ.2.2) → E nh = some (AI (fG X) 12 g) → (∀ j, j < 12 → g j = aV Φ j) → V X E (nh + 1, 0 + 1, 0 + 12) 134 [some (.ref (gb (fG X) + 0)), some (.int (iI (T : Int))), some (.int (iI (p : Int))), some (.int (iI (tips Ψ.1 T : Int))), some (.ref (gb (fG X) + nh)), some (.int (iI 1)), none, none, none] [.int (iI (tips Ψ.1 p : Int))] := by
    intro E hs1 g hx hkΘ hA hg
    have hx0 := hx.1
    refine v_istore (pc := 134) cx (sa6 rfl) dL_parted_134 ?_
    refine v_iload_n (pc := 136) cx rfl ga2 dL_parted_136 ?_
    refine v_iload_n (pc := 137) cx rfl ga1 dL_parted_137 ?_
    refine v_icmp_ge (pc := 138) cx 151 dL_parted_138 rfl (by omega) (fun c138 => ?_) (fun c138 => ?_)
    · refine v_iconst (pc := 151) cx dL_parted_151 ?_
      have e : p = T := by omega
      exact two E _ g 0 hx hkΘ (by rw [e]) rfl hA hg ⟨Int.le_refl _, by rw [e]; omega⟩
    · have hpt : p < T := by omega
      have h0 : (ticks Ψ.1 p).1 0 = Ψ.1.1 0 + p := ticks_0 p
      have ht2 : (ticks Ψ.1 p).1 0 + ((T - p : Nat) : Int) ≤ 5000 := by omega
      obtain ⟨er2, es2⟩ := run_in (Ψ := (ticks Ψ.1 p, hs1, Ψ.2.2)) (k := T - p) ⟨by omega, by omega⟩ ht2
      have hk2 := okX_run hkΘ (k := T - p) ⟨by omega, by omega⟩ ht2
      have hadd := ticks_add (σ := Ψ.1) p (T - p)
      have hadt := tips_add (σ := Ψ.1) p (T - p)
      rw [show p + (T - p) = T by omega] at hadd hadt
      refine v_aload_n (pc := 141) cx rfl ga0 dL_parted_141 ?_
      refine v_iload_n (pc := 142) cx rfl ga1 dL_parted_142 ?_
      refine v_iload_n (pc := 143) cx rfl ga2 dL_parted_143 ?_
      refine v_isub (pc := 144) cx dL_parted_144 ?_
      rw [show (T : Int) - (p : Int) = ((T - p : Nat) : Int) by omega]
      refine v_callVI (pc := 145) cx hR (c_run _ _ _ _ hx hkΘ (by omega)) mlL_32 (by decide) hx0 rfl rfl rfl (Nat.le_of_ble_eq_true rfl) ⟨Nat.le_refl _, Nat.le_refl _⟩ dL_parted_145 (fun r145 E145 hP => ?_)
      obtain ⟨hv, hx2, hF⟩ := hP
      rw [er2] at hv
      rw [es2] at hx2
      subst hv
      have hA2 := (hF nh (by omega)).trans hA
      refine v_goto (pc := 148) cx 152 dL_parted_148 rfl ?_
      refine two E145 _ g _ hx2 hk2 hadd rfl hA2 hg ⟨by omega, ?_⟩
      show (tips Ψ.1 p : Int) + (tips (ticks Ψ.1 p) (T - p) : Int) = _
      omega
  have fill : ∀ (d i : Nat) (E : Wd) (g : Nat → Int), i ≤ 12 → 12 - i < d → isX (fG X) E Φ → E nh = some (AI (fG X) 12 g) → (∀ j, j < i → g j = aV Φ j) → V X E (nh + 1, 0 + 1, 0 + 12) 44 [some (.ref (gb (fG X) + 0)), some (.int (iI (T : Int))), some (.int (iI (p : Int))), some (.int (iI (tips Ψ.1 T : Int))), some (.ref (gb (fG X) + nh)), some (.int (iI (i : Int))), none, none, none] [] := by
    intro d
    induction d with
    | zero => intro i E g h1 h2; omega
    | succ d ih =>
      intro i E g hi12 hd hx hA hg
      have hx0 := hx.1
      refine v_iload (pc := 44) cx ga5 dL_parted_44 ?_
      refine v_bipush (pc := 46) cx (by decide) dL_parted_46 ?_
      refine v_icmp_ge (pc := 48) cx 100 dL_parted_48 rfl (by omega) (fun c48 => ?_) (fun c48 => ?_)
      · have hg : ∀ j, j < 12 → g j = aV Φ j := fun j hj => hg j (by omega)
        refine v_aload_n (pc := 100) cx rfl ga0 dL_parted_100 ?_
        refine v_callSI (pc := 101) cx hR (c_holds _ _ _ _ hx hk1 hp1) mlL_35 (by decide) rfl (Nat.le_of_ble_eq_true rfl) ⟨Nat.le_refl _, Nat.le_refl _⟩ dL_parted_101 (fun r101 E101 hP => ?_)
        obtain ⟨rfl, rfl⟩ := hP
        refine v_if_eq (pc := 104) cx 118 dL_parted_104 rfl (by omega) (fun c104 => ?_) (fun c104 => ?_)
        · omega
        refine v_aload_n (pc := 107) cx rfl ga0 dL_parted_107 ?_
        refine v_callVI (pc := 108) cx hR (c_undo _ _ _ _ hx hk1) mlL_41 (by decide) hx0 rfl rfl rfl (Nat.le_of_ble_eq_true rfl) ⟨Nat.le_refl _, Nat.le_refl _⟩ dL_parted_108 (fun r108 E108 hP => ?_)
        obtain ⟨hv, hx2, hF⟩ := hP
        have hu : vUnd Φ = (Φ.2.1.length : Int) - 1 := vUnd_pos (by rw [hΦ]; exact keepH_pos)
        have hu2 : 0 < Φ.2.1.length := by rw [hΦ]; exact keepH_pos
        have hu3 := hk1.2.1.1
        rw [hu] at hv
        subst hv
        have hk2 : okX (Ψ.1, (keepH Ψ.2.1 Ψ.1).dropLast, Ψ.2.2) := okX_und (by rw [← hΦ]; exact hk1)
        rw [hΦ, und_keep] at hx2
        have hA2 := (hF nh (by omega)).trans hA
        have hx20 := hx2.1
        refine v_if_lt (pc := 111) cx 118 dL_parted_111 rfl (by omega) (fun c111 => ?_) (fun c111 => ?_)
        · omega
        refine v_iconst (pc := 114) cx dL_parted_114 ?_
        refine v_goto (pc := 115) cx 119 dL_parted_115 rfl ?_
        refine v_istore (pc := 119) cx (sa5 rfl) dL_parted_119 ?_
        refine v_iload_n (pc := 121) cx rfl ga2 dL_parted_121 ?_
        refine v_if_le (pc := 122) cx 133 dL_parted_122 rfl (by omega) (fun c122 => ?_) (fun c122 => ?_)
        · refine v_iconst (pc := 133) cx dL_parted_133 ?_
          have e : p = 0 := by omega
          subst e
          exact one E108 _ g hx2 hk2 hA2 hg
        · have ht2 : Ψ.1.1 0 + (p : Int) ≤ 5000 := by omega
          obtain ⟨er2, es2⟩ := run_in (Ψ := (Ψ.1, (keepH Ψ.2.1 Ψ.1).dropLast, Ψ.2.2)) (k := p) ⟨by omega, by omega⟩ ht2
          have hk3 := okX_run hk2 (k := p) ⟨by omega, by omega⟩ ht2
          refine v_aload_n (pc := 125) cx rfl ga0 dL_parted_125 ?_
          refine v_iload_n (pc := 126) cx rfl ga2 dL_parted_126 ?_
          refine v_callVI (pc := 127) cx hR (c_run _ _ _ _ hx2 hk2 (by omega)) mlL_32 (by decide) hx20 rfl rfl rfl (Nat.le_of_ble_eq_true rfl) ⟨Nat.le_refl _, Nat.le_refl _⟩ dL_parted_127 (fun r127 E127 hP => ?_)
          obtain ⟨hv, hx3, hF3⟩ := hP
          rw [er2] at hv
          rw [es2] at hx3
          subst hv
          have hA3 := (hF3 nh (by omega)).trans hA2
          refine v_goto (pc := 130) cx 134 dL_parted_130 rfl ?_
          exact one E127 _ g hx3 hk3 hA3 hg
      have hi : i < 12 := by omega
      obtain ⟨v1, v2, v3⟩ := aV_bd (Φ := Φ) (j := i)
      have put : ∀ x : Int, x = aV Φ i → V X E (nh + 1, 0 + 1, 0 + 12) 93 [some (.ref (gb (fG X) + 0)), some (.int (iI (T : Int))), some (.int (iI (p : Int))), some (.int (iI (tips Ψ.1 T : Int))), some (.ref (gb (fG X) + nh)), some (.int (iI (i : Int))), none, none, none] [.int (iI x), .int (iI (i : Int)), .ref (gb (fG X) + nh)] := by
        intro x hxv
        have hA1 := hA
        refine v_iastore (pc := 93) cx (i) hA1 (by omega) dL_parted_93 (fun E93 hE93 hF93 => ?_)
        refine v_iinc (pc := 94) cx ga5 (sa5 rfl) dL_parted_94 ?_
        refine v_goto (pc := 97) cx 44 dL_parted_97 rfl ?_
        refine ih (i + 1) E93 _ (by omega) (by omega) (hx.out (x := nh) (y := nh + 1) (fun j hj => hF93 j (by omega)) hn) hE93 (fun j hj => ?_)
        by_cases q : j = i
        · rw [q, upI_s, hxv]
        · rw [upI_n q]
          exact hg j (by omega)
      refine v_aload (pc := 51) cx ga4 dL_parted_51 ?_
      refine v_iload (pc := 53) cx ga5 dL_parted_53 ?_
      refine v_iload (pc := 55) cx ga5 dL_parted_55 ?_
      refine v_iconst (pc := 57) cx dL_parted_57 ?_
      refine v_icmp_ge (pc := 58) cx 70 dL_parted_58 rfl (by omega) (fun c58 => ?_) (fun c58 => ?_)
      · refine v_iload (pc := 70) cx ga5 dL_parted_70 ?_
        refine v_bipush (pc := 72) cx (by decide) dL_parted_72 ?_
        refine v_icmp_ge (pc := 74) cx 88 dL_parted_74 rfl (by omega) (fun c74 => ?_) (fun c74 => ?_)
        · refine v_aload_n (pc := 88) cx rfl ga0 dL_parted_88 ?_
          refine v_iconst (pc := 89) cx dL_parted_89 ?_
          refine v_callVI (pc := 90) cx hR (c_count _ _ _ _ hx hk1 (by omega)) mlL_15 (by decide) hx0 rfl rfl rfl (Nat.le_of_ble_eq_true rfl) ⟨Nat.le_refl _, Nat.le_refl _⟩ dL_parted_90 (fun r90 E90 hP => ?_)
          obtain ⟨rfl, rfl⟩ := hP
          exact put _ (v3 (by omega) (by omega))
        · refine v_aload_n (pc := 77) cx rfl ga0 dL_parted_77 ?_
          refine v_iload (pc := 78) cx ga5 dL_parted_78 ?_
          refine v_iconst (pc := 80) cx dL_parted_80 ?_
          refine v_isub (pc := 81) cx dL_parted_81 ?_
          refine v_callVI (pc := 82) cx hR (c_count _ _ _ _ hx hk1 (by omega)) mlL_15 (by decide) hx0 rfl rfl rfl (Nat.le_of_ble_eq_true rfl) ⟨Nat.le_refl _, Nat.le_refl _⟩ dL_parted_82 (fun r82 E82 hP => ?_)
          obtain ⟨rfl, rfl⟩ := hP
          refine v_goto (pc := 85) cx 93 dL_parted_85 rfl ?_
          exact put _ (v2 (by omega) (by omega))
      · refine v_aload_n (pc := 61) cx rfl ga0 dL_parted_61 ?_
        refine v_iload (pc := 62) cx ga5 dL_parted_62 ?_
        refine v_callVI (pc := 64) cx hR (c_account _ _ _ _ hx hk1 (by omega)) mlL_9 (by decide) hx0 rfl rfl rfl (Nat.le_of_ble_eq_true rfl) ⟨Nat.le_refl _, Nat.le_refl _⟩ dL_parted_64 (fun r64 E64 hP => ?_)
        obtain ⟨rfl, rfl⟩ := hP
        refine v_goto (pc := 67) cx 93 dL_parted_67 rfl ?_
        exact put _ (v1 (by omega))
  refine v_aload_n (pc := 0) cx rfl ga0 dL_parted_0 ?_
  refine v_iload_n (pc := 1) cx rfl ga1 dL_parted_1 ?_
  refine v_callVI (pc := 2) cx hR (c_run _ _ _ _ h hk (by omega)) mlL_32 (by decide) hx0 rfl rfl rfl (Nat.le_of_ble_eq_true rfl) ⟨Nat.zero_le _, Nat.zero_le _⟩ dL_parted_2 (fun r2 E2 hP => ?_)
  obtain ⟨hv, hx1, hF⟩ := hP
  rw [er] at hv
  rw [es] at hx1
  subst hv
  refine v_istore_n (pc := 5) cx rfl (sa3 rfl) dL_parted_5 ?_
  refine v_iload_n (pc := 6) cx rfl ga3 dL_parted_6 ?_
  refine v_if_ge (pc := 7) cx 35 dL_parted_7 rfl (by omega) (fun c7 => ?_) (fun c7 => ?_)
  rotate_left 1
  · omega
  refine v_bipush (pc := 35) cx (by decide) dL_parted_35 ?_
  refine v_newint (pc := 37) cx 12 hR aw_int ⟨rfl, by decide⟩ ⟨Nat.le_of_ble_eq_true rfl, Nat.le_of_ble_eq_true rfl⟩ dL_parted_37 (fun E37 hE37 hF37 => ?_)
  replace hE37 : E37 (nh) = _ := hE37
  replace hF37 : ∀ j, j ≠ nh → E37 j = _ := hF37
  refine v_astore (pc := 39) cx (sa4 rfl) dL_parted_39 ?_
  refine v_iconst (pc := 41) cx dL_parted_41 ?_
  refine v_istore (pc := 42) cx (sa5 rfl) dL_parted_42 ?_
  exact fill 13 0 E37 _ (by omega) (by omega) (hx1.out (x := nh) (y := nh + 1) (fun j hj => hF37 j (by omega)) hn) hE37 (fun j hj => absurd hj (Nat.not_lt_zero _))
end
section
/-! the law: changes with what they leave -/
theorem set_all {Ψ : Fs} {w x lo hi : Int} {i : Nat} (hk : okX Ψ) (hp : okP Ψ.1) (hw : 0 ≤ w ∧ w ≤ 7) (hw5 : w ≠ 5) (hpl : 11 + w.toNat = i) (hlo : tbV 0 w.toNat = lo) (hhi : tbV 1 w.toNat = hi) (h : lo ≤ x ∧ x ≤ hi) : ∃ Φ : Fs, sSet Ψ w x = Φ ∧ okX Φ ∧ okP Φ.1 ∧ vSet Ψ w x = Ψ.1.1 i ∧ Φ.1.1 i = x ∧ (∀ j, j ≠ i → Φ.1.1 j = Ψ.1.1 j) ∧ Φ.1.2 = Ψ.1.2 ∧ 0 < Φ.2.1.length := by
  obtain ⟨e1, e2, e3⟩ := sSet_in (Ψ := Ψ) (w := w) (x := x) (by omega)
  subst hpl
  exact ⟨_, rfl, kX_set hk, okP_set hw.1 hw5 hp, e1, e2, fun j hj => sSet_get hj, sSet_2, e3⟩
theorem add_all {Ψ : Fs} {b l r : Int} (hk : okX Ψ) (hp : okP Ψ.1) (hb : Ψ.1.1 0 ≤ b ∧ b ≤ 5000) (hl : 1 ≤ l ∧ l ≤ 500) (hr : 1 ≤ r ∧ r ≤ 200) : ∃ Φ : Fs, sAdd Ψ b l r = Φ ∧ okX Φ ∧ okP Φ.1 ∧ Φ.1.1 0 = Ψ.1.1 0 ∧ ((vAdd Ψ b l r = -3 ∧ vCnt Φ 1 = 12) ∨ (0 ≤ vAdd Ψ b l r ∧ vAdd Ψ b l r ≤ 12 ∧ vSho Φ (vAdd Ψ b l r) 2 = r)) := by
  obtain ⟨e1, e2⟩ := add_out hk hb hl hr
  exact ⟨_, rfl, kX_add hk, okP_add hp, by rw [e1], e2⟩
theorem win_all {Ψ : Fs} (hk : okX Ψ) (hp : okP Ψ.1) : ∃ Φ : Fs, sWin Ψ = Φ ∧ okX Φ ∧ okP Φ.1 ∧ Φ.1.1 0 = Ψ.1.1 0 ∧ Φ.1.1 4 = Φ.1.1 17 :=
  ⟨_, rfl, kX_win hk, okP_win hp, upI_n (g := Ψ.1.1) (j := 4) (x := Ψ.1.1 17) (q := 0) (by decide), (upI_s (g := Ψ.1.1) (j := 4) (x := Ψ.1.1 17)).trans (upI_n (g := Ψ.1.1) (j := 4) (x := Ψ.1.1 17) (q := 17) (by decide)).symm⟩
theorem run_all {Ψ : Fs} {k : Int} (n : Nat) (hk : okX Ψ) (hp : okP Ψ.1) (hn : k = (n : Int)) (h1 : 1 ≤ n ∧ n ≤ 1000) (h2 : Ψ.1.1 0 + n ≤ 5000) : ∃ Φ : Fs, sRun Ψ k = Φ ∧ okX Φ ∧ okP Φ.1 ∧ (0 ≤ vRun Ψ k ∧ vRun Ψ k ≤ 1000) ∧ Φ.1.1 0 = Ψ.1.1 0 + n ∧ Φ.1 = ticks Ψ.1 n ∧ 0 < Φ.2.1.length ∧ okX (sUnd Φ) ∧ (sUnd Φ).1 = Ψ.1 := by
  subst hn
  obtain ⟨e1, e2⟩ := run_in h1 h2
  have ht := tips_le (σ := Ψ.1) n
  have hk2 := okX_run hk h1 h2
  refine ⟨_, e2, hk2, okP_ticks hk.1 hp n h2, by rw [e1]; omega, ticks_0 n, rfl, keepH_pos, ?_, ?_⟩
  · rw [und_keep]
    exact okX_und hk2
  · rw [und_keep]
section
variable {X : Fx} {b L : Nat} {xs : Nat → Int32}
/-! the law's last rows -/
set_option maxRecDepth 100000 in
set_option maxHeartbeats 4000000 in
theorem law_end (cx : Cx X cL_law RL) (hR : RM X 8 144 4221) {nh c q : Nat} (hzc : c ≤ 144) (hzq : q ≤ 4221) (fin : ∀ (E : Wd) (ls : List (Option Value)), V X E (nh, c, q) 640 ls [.int (iI 1)]) {Ψ : Fs} {E : Wd} (hx : isX (fG X) E Ψ) (hk : okX Ψ) (hh : 0 < Ψ.2.1.length) (g : Int) (w4 w5 w6 w7 w8 w9 w10 w11 : Option Value) : V X E (nh, c, q) 601 [some (.ref b), some (.ref (gb (fG X) + 0)), some (.int (iI 1)), some (.int (iI g)), w4, w5, w6, w7, w8, w9, w10, w11] [] := by
  have hx0 := hx.1
  obtain ⟨nC0, nC1, nC2, nC3, nC4, nC5, nC6, nC8, nC11, nC13, nC20, nC25, nC26⟩ := vC (Ψ := Ψ)
  have hlen := hk.2.1.1
  refine v_iconst (pc := 601) cx dL_law_601 ?_
  refine v_goto (pc := 602) cx 606 dL_law_602 rfl ?_
  refine v_istore_n (pc := 606) cx rfl (sa2 rfl) dL_law_606 ?_
  refine v_aload_n (pc := 607) cx rfl ga1 dL_law_607 ?_
  refine v_bipush (pc := 608) cx (by decide) dL_law_608 ?_
  refine v_callVI (pc := 610) cx hR (c_count _ _ _ _ hx hk (by omega)) mlL_15 (by decide) hx0 rfl rfl rfl (Nat.le_of_ble_eq_true rfl) ⟨hzc, hzq⟩ dL_law_610 (fun r610 E610 hP => ?_)
  obtain ⟨rfl, rfl⟩ := hP
  refine v_istore (pc := 613) cx (sa4 rfl) dL_law_613 ?_
  refine v_iload_n (pc := 615) cx rfl ga2 dL_law_615 ?_
  refine v_if_eq (pc := 616) cx 639 dL_law_616 rfl (by omega) (fun c616 => ?_) (fun c616 => ?_)
  · omega
  refine v_iload (pc := 619) cx ga4 dL_law_619 ?_
  refine v_if_le (pc := 621) cx 639 dL_law_621 rfl (by omega) (fun c621 => ?_) (fun c621 => ?_)
  · omega
  refine v_aload_n (pc := 624) cx rfl ga1 dL_law_624 ?_
  refine v_callVI (pc := 625) cx hR (c_undo _ _ _ _ hx hk) mlL_41 (by decide) hx0 rfl rfl rfl (Nat.le_of_ble_eq_true rfl) ⟨hzc, hzq⟩ dL_law_625 (fun r625 E625 hP => ?_)
  obtain ⟨hv, hx1, hF⟩ := hP
  rw [vUnd_pos hh] at hv
  subst hv
  refine v_iload (pc := 628) cx ga4 dL_law_628 ?_
  refine v_iconst (pc := 630) cx dL_law_630 ?_
  refine v_isub (pc := 631) cx dL_law_631 ?_
  refine v_icmp_ne (pc := 632) cx 639 dL_law_632 rfl (by omega) (fun c632 => ?_) (fun c632 => ?_)
  · omega
  refine v_iconst (pc := 635) cx dL_law_635 ?_
  refine v_goto (pc := 636) cx 640 dL_law_636 rfl ?_
  exact fin _ _
set_option maxRecDepth 100000 in
set_option maxHeartbeats 4000000 in
theorem law_gap (cx : Cx X cL_law RL) (hR : RM X 8 144 4221) {nh c q : Nat} (hzc : c ≤ 144) (hzq : q ≤ 4221) (fin : ∀ (E : Wd) (ls : List (Option Value)), V X E (nh, c, q) 640 ls [.int (iI 1)]) {Ψ : Fs} {E : Wd} (hx : isX (fG X) E Ψ) (hk : okX Ψ) (hp : okP Ψ.1) (hh : 0 < Ψ.2.1.length) (w3 : Int) (w4 w5 w6 w7 w8 w9 w10 w11 : Option Value) : V X E (nh, c, q) 534 [some (.ref b), some (.ref (gb (fG X) + 0)), some (.int (iI 1)), some (.int (iI w3)), w4, w5, w6, w7, w8, w9, w10, w11] [] := by
  have hx0 := hx.1
  have hg := gap_in (Ψ := Ψ)
  have hse := hk.1.2.1.2.2.2.2.2.2.2
  refine v_iconst (pc := 534) cx dL_law_534 ?_
  refine v_goto (pc := 535) cx 539 dL_law_535 rfl ?_
  refine v_istore_n (pc := 539) cx rfl (sa2 rfl) dL_law_539 ?_
  refine v_aload_n (pc := 540) cx rfl ga1 dL_law_540 ?_
  refine v_callVI (pc := 541) cx hR (c_gapForOne _ _ _ _ hx hk) mlL_72 (by decide) hx0 rfl rfl rfl (Nat.le_of_ble_eq_true rfl) ⟨hzc, hzq⟩ dL_law_541 (fun r541 E541 hP => ?_)
  obtain ⟨rfl, rfl⟩ := hP
  refine v_istore_n (pc := 544) cx rfl (sa3 rfl) dL_law_544 ?_
  refine v_iload_n (pc := 545) cx rfl ga2 dL_law_545 ?_
  refine v_if_eq (pc := 546) cx 605 dL_law_546 rfl (by omega) (fun c546 => ?_) (fun c546 => ?_)
  · omega
  refine v_iload_n (pc := 549) cx rfl ga3 dL_law_549 ?_
  refine v_bipush (pc := 550) cx (by decide) dL_law_550 ?_
  refine v_icmp_eq (pc := 552) cx 601 dL_law_552 rfl (by omega) (fun c552 => ?_) (fun c552 => ?_)
  · exact law_end cx hR hzc hzq fin hx hk hh _ w4 w5 w6 w7 w8 w9 w10 w11
  rcases hg with hg | hg
  · omega
  obtain ⟨g1, g2, g3, g4⟩ := hg
  obtain ⟨Φ, eΦ, kΦ, pΦ, vΦ, xΦ, sΦ, mΦ, lΦ⟩ := set_all (w := 7) (x := vGap Ψ) (i := 18) (lo := 1) (hi := 1000) hk hp (by omega) (by omega) rfl rfl rfl ⟨g1, g2⟩
  refine v_aload_n (pc := 555) cx rfl ga1 dL_law_555 ?_
  refine v_bipush (pc := 556) cx (by decide) dL_law_556 ?_
  refine v_iload_n (pc := 558) cx rfl ga3 dL_law_558 ?_
  refine v_callVI (pc := 559) cx hR (c_set _ _ _ _ hx hk (by omega) (by omega)) mlL_49 (by decide) hx0 rfl rfl rfl (Nat.le_of_ble_eq_true rfl) ⟨hzc, hzq⟩ dL_law_559 (fun r559 E559 hP => ?_)
  obtain ⟨hv, hx1, hF⟩ := hP
  have hv := hv.trans vΦ
  have hx1 : isX (fG X) E559 Φ := by rw [← eΦ]; exact hx1
  have hx10 := hx1.1
  have n3 : vCnt Φ 3 = 1 := by
    show (cnt (k1 Φ.1.2.2.2) (Φ.1.1 18) Φ.1.2.2.2.length : Int) = 1
    rw [mΦ, xΦ, g3]
    rfl
  subst hv
  refine v_if_le (pc := 562) cx 605 dL_law_562 rfl (by omega) (fun c562 => ?_) (fun c562 => ?_)
  · omega
  have hx0 := hx10
  refine v_aload_n (pc := 565) cx rfl ga1 dL_law_565 ?_
  refine v_iconst (pc := 566) cx dL_law_566 ?_
  refine v_callVI (pc := 567) cx hR (c_count _ _ _ _ hx1 kΦ (by omega)) mlL_15 (by decide) hx0 rfl rfl rfl (Nat.le_of_ble_eq_true rfl) ⟨hzc, hzq⟩ dL_law_567 (fun r567 E567 hP => ?_)
  obtain ⟨rfl, rfl⟩ := hP
  refine v_iconst (pc := 570) cx dL_law_570 ?_
  refine v_icmp_ne (pc := 571) cx 605 dL_law_571 rfl (by omega) (fun c571 => ?_) (fun c571 => ?_)
  · omega
  refine v_iload_n (pc := 574) cx rfl ga3 dL_law_574 ?_
  refine v_iconst (pc := 575) cx dL_law_575 ?_
  refine v_icmp_eq (pc := 576) cx 601 dL_law_576 rfl (by omega) (fun c576 => ?_) (fun c576 => ?_)
  · exact law_end cx hR hzc hzq fin hx1 kΦ lΦ _ w4 w5 w6 w7 w8 w9 w10 w11
  rcases g4 with g4 | g4
  · omega
  obtain ⟨Θ, eΘ, kΘ, pΘ, vΘ, xΘ, sΘ, mΘ, lΘ⟩ := set_all (Ψ := Φ) (w := 7) (x := vGap Ψ - 1) (i := 18) (lo := 1) (hi := 1000) kΦ pΦ (by omega) (by omega) rfl rfl rfl (by omega)
  refine v_aload_n (pc := 579) cx rfl ga1 dL_law_579 ?_
  refine v_bipush (pc := 580) cx (by decide) dL_law_580 ?_
  refine v_iload_n (pc := 582) cx rfl ga3 dL_law_582 ?_
  refine v_iconst (pc := 583) cx dL_law_583 ?_
  refine v_isub (pc := 584) cx dL_law_584 ?_
  refine v_callVI (pc := 585) cx hR (c_set _ _ _ _ hx1 kΦ (by omega) (by omega)) mlL_49 (by decide) hx0 rfl rfl rfl (Nat.le_of_ble_eq_true rfl) ⟨hzc, hzq⟩ dL_law_585 (fun r585 E585 hP => ?_)
  obtain ⟨hv, hx2, hF2⟩ := hP
  have hv := hv.trans vΘ
  have hx2 : isX (fG X) E585 Θ := by rw [← eΘ]; exact hx2
  have hx0 := hx2.1
  have n3 : (2 : Int) ≤ vCnt Θ 3 ∧ vCnt Θ 3 ≤ 60 := by
    have e : vCnt Θ 3 = (cnt (k1 Ψ.1.2.2.2) (vGap Ψ - 1) Ψ.1.2.2.2.length : Int) := by
      show (cnt (k1 Θ.1.2.2.2) (Θ.1.1 18) Θ.1.2.2.2.length : Int) = _
      rw [mΘ, mΦ, xΘ]
    have h1 := cnt_le (k1 Ψ.1.2.2.2) (vGap Ψ - 1) Ψ.1.2.2.2.length
    have h2 := hk.1.2.2.2.2.1
    omega
  subst hv
  refine v_iload_n (pc := 588) cx rfl ga3 dL_law_588 ?_
  refine v_icmp_ne (pc := 589) cx 605 dL_law_589 rfl (by omega) (fun c589 => ?_) (fun c589 => ?_)
  · omega
  refine v_aload_n (pc := 592) cx rfl ga1 dL_law_592 ?_
  refine v_iconst (pc := 593) cx dL_law_593 ?_
  refine v_callVI (pc := 594) cx hR (c_count _ _ _ _ hx2 kΘ (by omega)) mlL_15 (by decide) hx0 rfl rfl rfl (Nat.le_of_ble_eq_true rfl) ⟨hzc, hzq⟩ dL_law_594 (fun r594 E594 hP => ?_)
  obtain ⟨rfl, rfl⟩ := hP
  refine v_iconst (pc := 597) cx dL_law_597 ?_
  refine v_icmp_le (pc := 598) cx 605 dL_law_598 rfl (by omega) (fun c598 => ?_) (fun c598 => ?_)
  · omega
  exact law_end cx hR hzc hzq fin hx2 kΘ lΘ _ w4 w5 w6 w7 w8 w9 w10 w11
set_option maxRecDepth 100000 in
set_option maxHeartbeats 4000000 in
theorem law_runs (cx : Cx X cL_law RL) (hR : RM X 8 144 4221) {nh c q : Nat} (hzc : c ≤ 144) (hzq : q ≤ 4221) (fin : ∀ (E : Wd) (ls : List (Option Value)), V X E (nh, c, q) 640 ls [.int (iI 1)]) (w4 w5 w6 w7 w8 w9 w10 w11 : Option Value) : ∀ (d j : Nat) (Ψ : Fs) (E : Wd), j ≤ 3 → 3 - j < d → isX (fG X) E Ψ → okX Ψ → okP Ψ.1 → 0 < Ψ.2.1.length → Ψ.1.1 0 ≤ 1820 + 700 * j → V X E (nh, c, q) 453 [some (.ref b), some (.ref (gb (fG X) + 0)), some (.int (iI 1)), some (.int (iI (j : Int))), w4, w5, w6, w7, w8, w9, w10, w11] [] := by
  intro d
  induction d with
  | zero => intro j Ψ E h1 h2; omega
  | succ d ih =>
    intro j Ψ E hj hd hx hk hp hh hs
    have hx0 := hx.1
    obtain ⟨nC0, nC1, nC2, nC3, nC4, nC5, nC6, nC8, nC11, nC13, nC20, nC25, nC26⟩ := vC (Ψ := Ψ)
    have hsc := hk.1.1.1
    have hls := hk.1.2.2.1.1
    have hrn := tkRain_bd hk.1
    refine v_iload_n (pc := 453) cx rfl ga3 dL_law_453 ?_
    refine v_iconst (pc := 454) cx dL_law_454 ?_
    refine v_icmp_ge (pc := 455) cx 495 dL_law_455 rfl (by omega) (fun c455 => ?_) (fun c455 => ?_)
    · refine v_iload_n (pc := 495) cx rfl ga2 dL_law_495 ?_
      refine v_if_eq (pc := 496) cx 538 dL_law_496 rfl (by omega) (fun c496 => ?_) (fun c496 => ?_)
      · omega
      refine v_aload_n (pc := 499) cx rfl ga1 dL_law_499 ?_
      refine v_callSI (pc := 500) cx hR (c_holds _ _ _ _ hx hk hp) mlL_35 (by decide) rfl (Nat.le_of_ble_eq_true rfl) ⟨hzc, hzq⟩ dL_law_500 (fun r500 E500 hP => ?_)
      obtain ⟨rfl, rfl⟩ := hP
      refine v_if_eq (pc := 503) cx 538 dL_law_503 rfl (by omega) (fun c503 => ?_) (fun c503 => ?_)
      · omega
      refine v_aload_n (pc := 506) cx rfl ga1 dL_law_506 ?_
      refine v_iconst (pc := 507) cx dL_law_507 ?_
      refine v_callVI (pc := 508) cx hR (c_count _ _ _ _ hx hk (by omega)) mlL_15 (by decide) hx0 rfl rfl rfl (Nat.le_of_ble_eq_true rfl) ⟨hzc, hzq⟩ dL_law_508 (fun r508 E508 hP => ?_)
      obtain ⟨rfl, rfl⟩ := hP
      refine v_sipush (pc := 511) cx (by decide) dL_law_511 ?_
      refine v_icmp_lt (pc := 514) cx 534 dL_law_514 rfl (by omega) (fun c514 => ?_) (fun c514 => ?_)
      · exact law_gap cx hR hzc hzq fin hx hk hp hh _ w4 w5 w6 w7 w8 w9 w10 w11
      refine v_aload_n (pc := 517) cx rfl ga1 dL_law_517 ?_
      refine v_iconst (pc := 518) cx dL_law_518 ?_
      refine v_callVI (pc := 519) cx hR (c_count _ _ _ _ hx hk (by omega)) mlL_15 (by decide) hx0 rfl rfl rfl (Nat.le_of_ble_eq_true rfl) ⟨hzc, hzq⟩ dL_law_519 (fun r519 E519 hP => ?_)
      obtain ⟨rfl, rfl⟩ := hP
      refine v_if_gt (pc := 522) cx 534 dL_law_522 rfl (by omega) (fun c522 => ?_) (fun c522 => ?_)
      · exact law_gap cx hR hzc hzq fin hx hk hp hh _ w4 w5 w6 w7 w8 w9 w10 w11
      have h13 : vCnt Ψ 13 = 0 := by
        have e : Ψ.1.2.1 = [] := List.length_eq_zero_iff.mp (by omega)
        show rainL Ψ.1.2.1 (Ψ.1.1 0) = 0
        rw [e]
        rfl
      refine v_aload_n (pc := 525) cx rfl ga1 dL_law_525 ?_
      refine v_bipush (pc := 526) cx (by decide) dL_law_526 ?_
      refine v_callVI (pc := 528) cx hR (c_count _ _ _ _ hx hk (by omega)) mlL_15 (by decide) hx0 rfl rfl rfl (Nat.le_of_ble_eq_true rfl) ⟨hzc, hzq⟩ dL_law_528 (fun r528 E528 hP => ?_)
      obtain ⟨rfl, rfl⟩ := hP
      refine v_if_ne (pc := 531) cx 538 dL_law_531 rfl (by omega) (fun c531 => ?_) (fun c531 => ?_)
      · omega
      exact law_gap cx hR hzc hzq fin hx hk hp hh _ w4 w5 w6 w7 w8 w9 w10 w11
    refine v_iload_n (pc := 458) cx rfl ga2 dL_law_458 ?_
    refine v_if_eq (pc := 459) cx 495 dL_law_459 rfl (by omega) (fun c459 => ?_) (fun c459 => ?_)
    · omega
    obtain ⟨Φ, eΦ, kΦ, pΦ, vΦ, tΦ, sΦ, lΦ, -, -⟩ := run_all (k := 700) 700 hk hp rfl (by omega) (by omega)
    refine v_aload_n (pc := 462) cx rfl ga1 dL_law_462 ?_
    refine v_sipush (pc := 463) cx (by decide) dL_law_463 ?_
    refine v_callVI (pc := 466) cx hR (c_run _ _ _ _ hx hk (by omega)) mlL_32 (by decide) hx0 rfl rfl rfl (Nat.le_of_ble_eq_true rfl) ⟨hzc, hzq⟩ dL_law_466 (fun r466 E466 hP => ?_)
    obtain ⟨hv, hx1, hF⟩ := hP
    have hx1 : isX (fG X) E466 Φ := by rw [← eΦ]; exact hx1
    subst hv
    refine v_if_ge (pc := 469) cx 483 dL_law_469 rfl (by omega) (fun c469 => ?_) (fun c469 => ?_)
    · refine v_iconst (pc := 483) cx dL_law_483 ?_
      refine v_goto (pc := 484) cx 488 dL_law_484 rfl ?_
      refine v_istore_n (pc := 488) cx rfl (sa2 rfl) dL_law_488 ?_
      refine v_iinc (pc := 489) cx ga3 (sa3 rfl) dL_law_489 ?_
      refine v_goto (pc := 492) cx 453 dL_law_492 rfl ?_
      exact ih (j + 1) Φ E466 (by omega) (by omega) hx1 kΦ pΦ lΦ (by omega)
    · omega
set_option maxRecDepth 100000 in
set_option maxHeartbeats 4000000 in
theorem law_tail (cx : Cx X cL_law RL) (hR : RM X 8 144 4221) {nh c q : Nat} (hzc : c ≤ 144) (hzq : q ≤ 4221) (fin : ∀ (E : Wd) (ls : List (Option Value)), V X E (nh, c, q) 640 ls [.int (iI 1)]) {Ψ : Fs} {E : Wd} (hx : isX (fG X) E Ψ) (hk : okX Ψ) (hp : okP Ψ.1) (hs : Ψ.1.1 0 ≤ 1820) (w3 : Int) (w4 w5 w6 w7 w8 w9 w10 w11 : Option Value) : V X E (nh, c, q) 421 [some (.ref b), some (.ref (gb (fG X) + 0)), some (.int (iI 1)), some (.int (iI w3)), w4, w5, w6, w7, w8, w9, w10, w11] [] := by
  have hx0 := hx.1
  have hse := hk.1.2.1
  obtain ⟨z1, z2, z3, z4, z5, z6, z7, z8⟩ := hse
  refine v_iload_n (pc := 421) cx rfl ga2 dL_law_421 ?_
  refine v_if_eq (pc := 422) cx 449 dL_law_422 rfl (by omega) (fun c422 => ?_) (fun c422 => ?_)
  · omega
  obtain ⟨Φ, eΦ, kΦ, pΦ, vΦ, xΦ, sΦ, mΦ, lΦ⟩ := set_all (w := 3) (x := 50) (i := 14) (lo := 0) (hi := 50) hk hp (by omega) (by omega) rfl rfl rfl (by omega)
  refine v_aload_n (pc := 425) cx rfl ga1 dL_law_425 ?_
  refine v_iconst (pc := 426) cx dL_law_426 ?_
  refine v_bipush (pc := 427) cx (by decide) dL_law_427 ?_
  refine v_callVI (pc := 429) cx hR (c_set _ _ _ _ hx hk (by omega) (by omega)) mlL_49 (by decide) hx0 rfl rfl rfl (Nat.le_of_ble_eq_true rfl) ⟨hzc, hzq⟩ dL_law_429 (fun r429 E429 hP => ?_)
  obtain ⟨hv, hx1, hF⟩ := hP
  have hv := hv.trans vΦ
  have hx1 : isX (fG X) E429 Φ := by rw [← eΦ]; exact hx1
  have hx0 := hx1.1
  subst hv
  refine v_if_lt (pc := 432) cx 449 dL_law_432 rfl (by omega) (fun c432 => ?_) (fun c432 => ?_)
  · omega
  obtain ⟨Θ, eΘ, kΘ, pΘ, vΘ, xΘ, sΘ, mΘ, lΘ⟩ := set_all (Ψ := Φ) (w := 4) (x := 50) (i := 15) (lo := 0) (hi := 50) kΦ pΦ (by omega) (by omega) rfl rfl rfl (by omega)
  have h15 := sΦ 15 (by decide)
  have h0 := sΦ 0 (by decide)
  have h00 := sΘ 0 (by decide)
  refine v_aload_n (pc := 435) cx rfl ga1 dL_law_435 ?_
  refine v_iconst (pc := 436) cx dL_law_436 ?_
  refine v_bipush (pc := 437) cx (by decide) dL_law_437 ?_
  refine v_callVI (pc := 439) cx hR (c_set _ _ _ _ hx1 kΦ (by omega) (by omega)) mlL_49 (by decide) hx0 rfl rfl rfl (Nat.le_of_ble_eq_true rfl) ⟨hzc, hzq⟩ dL_law_439 (fun r439 E439 hP => ?_)
  obtain ⟨hv, hx2, hF2⟩ := hP
  have hv := hv.trans vΘ
  have hx2 : isX (fG X) E439 Θ := by rw [← eΘ]; exact hx2
  subst hv
  refine v_if_lt (pc := 442) cx 449 dL_law_442 rfl (by omega) (fun c442 => ?_) (fun c442 => ?_)
  · omega
  refine v_iconst (pc := 445) cx dL_law_445 ?_
  refine v_goto (pc := 446) cx 450 dL_law_446 rfl ?_
  refine v_istore_n (pc := 450) cx rfl (sa2 rfl) dL_law_450 ?_
  refine v_iconst (pc := 451) cx dL_law_451 ?_
  refine v_istore_n (pc := 452) cx rfl (sa3 rfl) dL_law_452 ?_
  exact law_runs cx hR hzc hzq fin w4 w5 w6 w7 w8 w9 w10 w11 4 0 Θ E439 (by omega) (by omega) hx2 kΘ pΘ lΘ (by omega)
end
end
section
/-! the law's loop -/
section
variable {X : Fx} {b L : Nat} {xs : Nat → Int32}
set_option maxRecDepth 100000 in
set_option maxHeartbeats 4000000 in
theorem law_parts (cx : Cx X cL_law RL) (hR : RM X 8 144 4221) {nh c q k : Nat} (hnh : 124 ≤ nh) (hzc1 : c + 1 ≤ 144) (hzq1 : q + 12 ≤ 4221) {y : Int} (hy : 0 ≤ y ∧ y ≤ 2147483647) {Φ : Fs} {E : Wd} (hx : isX (fG X) E Φ) (hk : okX Φ) (hp : okP Φ.1) (hk20 : k ≤ 19) (hs : Φ.1.1 0 ≤ 91 * k) (told : Int) (w6 w7 w8 w9 w10 w11 : Option Value)
    (nxt : ∀ (Ψ' : Fs) (E' : Wd) (w4 w5 w6 w7 w8 w9 w10 w11 : Option Value), isX (fG X) E' Ψ' → okX Ψ' → okP Ψ'.1 → Ψ'.1.1 0 ≤ 91 * (k + 1) → V X E' (nh + 1, c + 1, q + 12) 415 [some (.ref b), some (.ref (gb (fG X) + 0)), some (.int (iI 1)), some (.int (iI (k : Int))), w4, w5, w6, w7, w8, w9, w10, w11] []) :
    V X E (nh, c, q) 236 [some (.ref b), some (.ref (gb (fG X) + 0)), some (.int (iI 1)), some (.int (iI (k : Int))), some (.int (iI y)), some (.int (iI told)), w6, w7, w8, w9, w10, w11] [] := by
  have hx0 := hx.1
  refine v_iconst (pc := 236) cx dL_law_236 ?_
  refine v_iload (pc := 237) cx ga4 dL_law_237 ?_
  refine v_iconst (pc := 239) cx dL_law_239 ?_
  refine v_ishrI (pc := 240) cx 3 8 (by omega) (by decide) (by decide) dL_law_240 ?_
  refine v_bipush (pc := 241) cx (by decide) dL_law_241 ?_
  refine v_iremI (pc := 243) cx (by omega) dL_law_243 ?_
  refine v_iadd (pc := 244) cx dL_law_244 ?_
  refine v_istore (pc := 245) cx (sa6 rfl) dL_law_245 ?_
  obtain ⟨T, hT⟩ : ∃ T : Nat, (T : Int) = 2 + y / 8 % 90 := ⟨(2 + y / 8 % 90).toNat, by omega⟩
  rw [← hT]
  refine v_iload (pc := 247) cx ga4 dL_law_247 ?_
  refine v_bipush (pc := 249) cx (by decide) dL_law_249 ?_
  refine v_ishrI (pc := 251) cx 9 512 (by omega) (by decide) (by decide) dL_law_251 ?_
  refine v_iload (pc := 252) cx ga6 dL_law_252 ?_
  refine v_iconst (pc := 254) cx dL_law_254 ?_
  refine v_iadd (pc := 255) cx dL_law_255 ?_
  refine v_iremI (pc := 256) cx (by omega) dL_law_256 ?_
  refine v_istore (pc := 257) cx (sa7 rfl) dL_law_257 ?_
  obtain ⟨p, hpe, hpT⟩ : ∃ p : Nat, (p : Int) = y / 512 % ((T : Int) + 1) ∧ p ≤ T := by
    have h1 := Int.emod_nonneg (y / 512) (show (T : Int) + 1 ≠ 0 by omega)
    have h2 := Int.emod_lt_of_pos (y / 512) (show 0 < (T : Int) + 1 by omega)
    exact ⟨(y / 512 % ((T : Int) + 1)).toNat, by omega, by omega⟩
  rw [← hpe]
  have h0 := hk.1.1.1
  have ht : Φ.1.1 0 + (T : Int) ≤ 5000 := by omega
  refine v_iload_n (pc := 259) cx rfl ga2 dL_law_259 ?_
  refine v_if_eq (pc := 260) cx 285 dL_law_260 rfl (by omega) (fun c260 => ?_) (fun c260 => ?_)
  · omega
  refine v_aload_n (pc := 263) cx rfl ga1 dL_law_263 ?_
  refine v_iload (pc := 264) cx ga6 dL_law_264 ?_
  refine v_iload (pc := 266) cx ga7 dL_law_266 ?_
  refine v_callSIm (pc := 268) cx hR (c_parted _ _ _ _ hx hk hp ⟨by omega, by omega, hpT⟩ ht hnh) mlL_62 (by decide) rfl (Nat.le_of_ble_eq_true rfl) ⟨hzc1, hzq1⟩ dL_law_268 (fun r268 E268 hP => ?_)
  show V X _ (nh + 1, c + 1, q + 12) _ _ _
  obtain ⟨rfl, hs', hx1, k1⟩ := hP
  obtain ⟨Θ, eΘ⟩ : ∃ Θ : Fs, Θ = (ticks Φ.1 T, hs', Φ.2.2) := ⟨_, rfl⟩
  rw [← eΘ] at hx1 k1
  have p1 : okP Θ.1 := by rw [eΘ]; exact okP_ticks hk.1 hp T ht
  have t1 : Θ.1.1 0 = Φ.1.1 0 + T := by rw [eΘ]; exact ticks_0 T
  have hx0 := hx1.1
  refine v_if_eq (pc := 271) cx 285 dL_law_271 rfl (by omega) (fun c271 => ?_) (fun c271 => ?_)
  · omega
  refine v_aload_n (pc := 274) cx rfl ga1 dL_law_274 ?_
  refine v_callSI (pc := 275) cx hR (c_holds _ _ _ _ hx1 k1 p1) mlL_35 (by decide) rfl (Nat.le_of_ble_eq_true rfl) ⟨hzc1, hzq1⟩ dL_law_275 (fun r275 E275 hP => ?_)
  obtain ⟨rfl, rfl⟩ := hP
  refine v_if_eq (pc := 278) cx 285 dL_law_278 rfl (by omega) (fun c278 => ?_) (fun c278 => ?_)
  · omega
  refine v_iconst (pc := 281) cx dL_law_281 ?_
  refine v_goto (pc := 282) cx 286 dL_law_282 rfl ?_
  refine v_istore_n (pc := 286) cx rfl (sa2 rfl) dL_law_286 ?_
  refine v_iload_n (pc := 287) cx rfl ga2 dL_law_287 ?_
  refine v_if_eq (pc := 288) cx 415 dL_law_288 rfl (by omega) (fun c288 => ?_) (fun c288 => ?_)
  · omega
  refine v_iload (pc := 291) cx ga4 dL_law_291 ?_
  refine v_iconst (pc := 293) cx dL_law_293 ?_
  refine v_iremI (pc := 294) cx (by omega) dL_law_294 ?_
  refine v_if_ne (pc := 295) cx 415 dL_law_295 rfl (by omega) (fun c295 => ?_) (fun c295 => ?_)
  · exact nxt Θ _ _ _ _ _ _ _ _ _ hx1 k1 p1 (by omega)
  obtain ⟨nC0, nC1, nC2, nC3, nC4, nC5, nC6, nC8, nC11, nC13, nC20, nC25, nC26⟩ := vC (Ψ := Θ)
  obtain ⟨a0, a1, a2, a3, a4⟩ := vA (Ψ := Θ)
  have t40 : Θ.1.1 0 + 40 ≤ 5000 := by omega
  obtain ⟨i2, i3, ib, ic1, ic2⟩ := cap_40 k1 p1 t40
  obtain ⟨Ω, eΩ, kΩ, pΩ, vΩ, tΩ, sΩ, lΩ, uk, us⟩ := run_all (Ψ := Θ) (k := 40) 40 k1 p1 rfl (by omega) t40
  obtain ⟨b0, b1, b2, b3, b4⟩ := vA (Ψ := Ω)
  rw [sΩ] at b2 b3
  obtain ⟨y0, y1, y2, y3, y4, y5, y6, y7, y8, y9, y10, y11⟩ := id k1.1.1
  obtain ⟨x0, x1, x2, x3, x4, x5, x6, x7, x8, x9, x10, x11⟩ := id kΩ.1.1
  rw [sΩ] at x6 x7 x8 x9 x10 x11 x1 x2 x0
  have hcap := k1.1.2.1.1
  refine v_aload_n (pc := 298) cx rfl ga1 dL_law_298 ?_
  refine v_iconst (pc := 299) cx dL_law_299 ?_
  refine v_callVI (pc := 300) cx hR (c_count _ _ _ _ hx1 k1 (by omega)) mlL_15 (by decide) hx0 rfl rfl rfl (Nat.le_of_ble_eq_true rfl) ⟨hzc1, hzq1⟩ dL_law_300 (fun r300 E300 hP => ?_)
  obtain ⟨rfl, rfl⟩ := hP
  refine v_bipush (pc := 303) cx (by decide) dL_law_303 ?_
  refine v_iadd (pc := 305) cx dL_law_305 ?_
  refine v_sipush (pc := 306) cx (by decide) dL_law_306 ?_
  refine v_icmp_gt (pc := 309) cx 415 dL_law_309 rfl (by omega) (fun c309 => ?_) (fun c309 => ?_)
  · omega
  refine v_aload_n (pc := 312) cx rfl ga1 dL_law_312 ?_
  refine v_iconst (pc := 313) cx dL_law_313 ?_
  refine v_callVI (pc := 314) cx hR (c_account _ _ _ _ hx1 k1 (by omega)) mlL_9 (by decide) hx0 rfl rfl rfl (Nat.le_of_ble_eq_true rfl) ⟨hzc1, hzq1⟩ dL_law_314 (fun r314 E314 hP => ?_)
  obtain ⟨rfl, rfl⟩ := hP
  refine v_istore (pc := 317) cx (sa8 rfl) dL_law_317 ?_
  refine v_aload_n (pc := 319) cx rfl ga1 dL_law_319 ?_
  refine v_iconst (pc := 320) cx dL_law_320 ?_
  refine v_callVI (pc := 321) cx hR (c_account _ _ _ _ hx1 k1 (by omega)) mlL_9 (by decide) hx0 rfl rfl rfl (Nat.le_of_ble_eq_true rfl) ⟨hzc1, hzq1⟩ dL_law_321 (fun r321 E321 hP => ?_)
  obtain ⟨rfl, rfl⟩ := hP
  refine v_istore (pc := 324) cx (sa9 rfl) dL_law_324 ?_
  refine v_aload_n (pc := 326) cx rfl ga1 dL_law_326 ?_
  refine v_bipush (pc := 327) cx (by decide) dL_law_327 ?_
  refine v_iconst (pc := 329) cx dL_law_329 ?_
  refine v_callVI (pc := 330) cx hR (c_ifRun _ _ _ _ hx1 k1 (by omega) (by omega)) mlL_66 (by decide) hx0 rfl rfl rfl (Nat.le_of_ble_eq_true rfl) ⟨hzc1, hzq1⟩ dL_law_330 (fun r330 E330 hP => ?_)
  obtain ⟨rfl, hx2, -⟩ := hP
  have hx0 := hx2.1
  refine v_aload_n (pc := 333) cx rfl ga1 dL_law_333 ?_
  refine v_bipush (pc := 334) cx (by decide) dL_law_334 ?_
  refine v_iconst (pc := 336) cx dL_law_336 ?_
  refine v_callVI (pc := 337) cx hR (c_ifRun _ _ _ _ hx2 k1 (by omega) (by omega)) mlL_66 (by decide) hx0 rfl rfl rfl (Nat.le_of_ble_eq_true rfl) ⟨hzc1, hzq1⟩ dL_law_337 (fun r337 E337 hP => ?_)
  obtain ⟨rfl, hx3, -⟩ := hP
  have hx0 := hx3.1
  refine v_iadd (pc := 340) cx dL_law_340 ?_
  refine v_istore (pc := 341) cx (sa10 rfl) dL_law_341 ?_
  refine v_aload_n (pc := 343) cx rfl ga1 dL_law_343 ?_
  refine v_bipush (pc := 344) cx (by decide) dL_law_344 ?_
  refine v_iload (pc := 346) cx ga10 dL_law_346 ?_
  refine v_callVI (pc := 348) cx hR (c_capacityFor _ _ _ _ hx3 k1 (by omega) (by omega)) mlL_69 (by decide) hx0 rfl rfl rfl (Nat.le_of_ble_eq_true rfl) ⟨hzc1, hzq1⟩ dL_law_348 (fun r348 E348 hP => ?_)
  obtain ⟨rfl, hx4, -⟩ := hP
  have hx0 := hx4.1
  refine v_istore (pc := 351) cx (sa11 rfl) dL_law_351 ?_
  refine v_iload (pc := 353) cx ga11 dL_law_353 ?_
  refine v_bipush (pc := 355) cx (by decide) dL_law_355 ?_
  refine v_icmp_lt (pc := 357) cx 413 dL_law_357 rfl (by omega) (fun c357 => ?_) (fun c357 => ?_)
  · omega
  refine v_iload (pc := 360) cx ga11 dL_law_360 ?_
  refine v_aload_n (pc := 362) cx rfl ga1 dL_law_362 ?_
  refine v_bipush (pc := 363) cx (by decide) dL_law_363 ?_
  refine v_callVI (pc := 365) cx hR (c_count _ _ _ _ hx4 k1 (by omega)) mlL_15 (by decide) hx0 rfl rfl rfl (Nat.le_of_ble_eq_true rfl) ⟨hzc1, hzq1⟩ dL_law_365 (fun r365 E365 hP => ?_)
  obtain ⟨rfl, rfl⟩ := hP
  refine v_icmp_gt (pc := 368) cx 413 dL_law_368 rfl (by omega) (fun c368 => ?_) (fun c368 => ?_)
  · omega
  refine v_aload_n (pc := 371) cx rfl ga1 dL_law_371 ?_
  refine v_bipush (pc := 372) cx (by decide) dL_law_372 ?_
  refine v_callVI (pc := 374) cx hR (c_run _ _ _ _ hx4 k1 (by omega)) mlL_32 (by decide) hx0 rfl rfl rfl (Nat.le_of_ble_eq_true rfl) ⟨hzc1, hzq1⟩ dL_law_374 (fun r374 E374 hP => ?_)
  obtain ⟨hv, hx5, -⟩ := hP
  have hx5 : isX (fG X) E374 Ω := by rw [← eΩ]; exact hx5
  have hx0 := hx5.1
  subst hv
  refine v_if_lt (pc := 377) cx 413 dL_law_377 rfl (by omega) (fun c377 => ?_) (fun c377 => ?_)
  · omega
  refine v_aload_n (pc := 380) cx rfl ga1 dL_law_380 ?_
  refine v_iconst (pc := 381) cx dL_law_381 ?_
  refine v_callVI (pc := 382) cx hR (c_account _ _ _ _ hx5 kΩ (by omega)) mlL_9 (by decide) hx0 rfl rfl rfl (Nat.le_of_ble_eq_true rfl) ⟨hzc1, hzq1⟩ dL_law_382 (fun r382 E382 hP => ?_)
  obtain ⟨rfl, rfl⟩ := hP
  refine v_aload_n (pc := 385) cx rfl ga1 dL_law_385 ?_
  refine v_iconst (pc := 386) cx dL_law_386 ?_
  refine v_callVI (pc := 387) cx hR (c_account _ _ _ _ hx5 kΩ (by omega)) mlL_9 (by decide) hx0 rfl rfl rfl (Nat.le_of_ble_eq_true rfl) ⟨hzc1, hzq1⟩ dL_law_387 (fun r387 E387 hP => ?_)
  obtain ⟨rfl, rfl⟩ := hP
  refine v_iadd (pc := 390) cx dL_law_390 ?_
  refine v_iload (pc := 391) cx ga8 dL_law_391 ?_
  refine v_iload (pc := 393) cx ga9 dL_law_393 ?_
  refine v_iadd (pc := 395) cx dL_law_395 ?_
  refine v_iload (pc := 396) cx ga10 dL_law_396 ?_
  refine v_iadd (pc := 398) cx dL_law_398 ?_
  refine v_icmp_ne (pc := 399) cx 413 dL_law_399 rfl (by omega) (fun c399 => ?_) (fun c399 => ?_)
  · omega
  refine v_aload_n (pc := 402) cx rfl ga1 dL_law_402 ?_
  refine v_callVI (pc := 403) cx hR (c_undo _ _ _ _ hx5 kΩ) mlL_41 (by decide) hx0 rfl rfl rfl (Nat.le_of_ble_eq_true rfl) ⟨hzc1, hzq1⟩ dL_law_403 (fun r403 E403 hP => ?_)
  obtain ⟨hv, hx6, -⟩ := hP
  rw [vUnd_pos lΩ] at hv
  have hl5 := kΩ.2.1.1
  subst hv
  refine v_if_lt (pc := 406) cx 413 dL_law_406 rfl (by omega) (fun c406 => ?_) (fun c406 => ?_)
  · omega
  refine v_iconst (pc := 409) cx dL_law_409 ?_
  refine v_goto (pc := 410) cx 414 dL_law_410 rfl ?_
  refine v_istore_n (pc := 414) cx rfl (sa2 rfl) dL_law_414 ?_
  exact nxt (sUnd Ω) _ _ _ _ _ _ _ _ _ hx6 uk (by rw [us]; exact p1) (by rw [us]; omega)
set_option maxRecDepth 100000 in
set_option maxHeartbeats 4000000 in
theorem law_loop (cx : Cx X cL_law RL) (hR : RM X 8 144 4221) (hX : va_X b L xs (fS X) (fS X).heap) (hb : b < (fS X).heap.size ∧ b < gb (fG X)) (hL : L ≤ 260) (fin : ∀ (nh c q : Nat) (E : Wd) (ls : List (Option Value)), c ≤ 144 → q ≤ 4221 → V X E (nh, c, q) 640 ls [.int (iI 1)]) : ∀ (d k nh c q : Nat) (Ψ : Fs) (E : Wd) (w4 w5 w6 w7 w8 w9 w10 w11 : Option Value), k ≤ 20 → 20 - k < d → 124 ≤ nh → c + (20 - k) ≤ 144 → q + 12 * (20 - k) ≤ 4221 → isX (fG X) E Ψ → okX Ψ → okP Ψ.1 → Ψ.1.1 0 ≤ 91 * k → V X E (nh, c, q) 95 [some (.ref b), some (.ref (gb (fG X) + 0)), some (.int (iI 1)), some (.int (iI (k : Int))), w4, w5, w6, w7, w8, w9, w10, w11] [] := by
  intro d
  induction d with
  | zero => intro k nh c q Ψ E w4 w5 w6 w7 w8 w9 w10 w11 h1 h2; omega
  | succ d ih =>
    intro k nh c q Ψ E w4 w5 w6 w7 w8 w9 w10 w11 hk20 hd hnh hc hq hx hk hp hs
    have hx0 := hx.1
    have hzc : c ≤ 144 := by omega
    have hzq : q ≤ 4221 := by omega
    have h0 := hk.1.1.1
    have nC0 := (vC (Ψ := Ψ)).1
    refine v_iload_n (pc := 95) cx rfl ga3 dL_law_95 ?_
    refine v_bipush (pc := 96) cx (by decide) dL_law_96 ?_
    refine v_icmp_ge (pc := 98) cx 421 dL_law_98 rfl (by omega) (fun c98 => ?_) (fun c98 => ?_)
    · exact law_tail cx hR hzc hzq (fun E ls => fin nh c q E ls hzc hzq) hx hk hp (by omega) _ w4 w5 w6 w7 w8 w9 w10 w11
    refine v_iload_n (pc := 101) cx rfl ga2 dL_law_101 ?_
    refine v_if_eq (pc := 102) cx 421 dL_law_102 rfl (by omega) (fun c102 => ?_) (fun c102 => ?_)
    · omega
    refine v_aload_n (pc := 105) cx rfl ga0 dL_law_105 ?_
    refine v_iconst (pc := 106) cx dL_law_106 ?_
    refine v_iload_n (pc := 107) cx rfl ga3 dL_law_107 ?_
    refine v_iadd (pc := 108) cx dL_law_108 ?_
    rw [show (4 : Int) + (k : Int) = ((4 + k : Nat) : Int) by omega]
    refine v_callX (pc := 109) cx hR hX hb (c_cell _ _ _ _ hb.2 hL (by omega)) mlL_45 (by decide) rfl (Nat.le_of_ble_eq_true rfl) ⟨hzc, hzq⟩ dL_law_109 (fun y E109 hP => ?_)
    obtain ⟨hy, rfl⟩ := hP
    refine v_istore (pc := 112) cx (sa4 rfl) dL_law_112 ?_
    refine v_aload_n (pc := 114) cx rfl ga1 dL_law_114 ?_
    refine v_aload_n (pc := 115) cx rfl ga1 dL_law_115 ?_
    refine v_iconst (pc := 116) cx dL_law_116 ?_
    refine v_callVI (pc := 117) cx hR (c_count _ _ _ _ hx hk (by omega)) mlL_15 (by decide) hx0 rfl rfl rfl (Nat.le_of_ble_eq_true rfl) ⟨hzc, hzq⟩ dL_law_117 (fun r117 E117 hP => ?_)
    obtain ⟨rfl, rfl⟩ := hP
    obtain ⟨Φ, eΦ, kΦ, pΦ, tΦ, aΦ⟩ := add_all (Ψ := Ψ) (b := vCnt Ψ 0 + y % 60) (l := 1 + y / 64 % 80) (r := 1 + y / 4096 % 120) hk hp (by omega) (by omega) (by omega)
    refine v_iload (pc := 120) cx ga4 dL_law_120 ?_
    refine v_bipush (pc := 122) cx (by decide) dL_law_122 ?_
    refine v_iremI (pc := 124) cx (by omega) dL_law_124 ?_
    refine v_iadd (pc := 125) cx dL_law_125 ?_
    refine v_iconst (pc := 126) cx dL_law_126 ?_
    refine v_iload (pc := 127) cx ga4 dL_law_127 ?_
    refine v_bipush (pc := 129) cx (by decide) dL_law_129 ?_
    refine v_ishrI (pc := 131) cx 6 64 (by omega) (by decide) (by decide) dL_law_131 ?_
    refine v_bipush (pc := 132) cx (by decide) dL_law_132 ?_
    refine v_iremI (pc := 134) cx (by omega) dL_law_134 ?_
    refine v_iadd (pc := 135) cx dL_law_135 ?_
    refine v_iconst (pc := 136) cx dL_law_136 ?_
    refine v_iload (pc := 137) cx ga4 dL_law_137 ?_
    refine v_bipush (pc := 139) cx (by decide) dL_law_139 ?_
    refine v_ishrI (pc := 141) cx 12 4096 (by omega) (by decide) (by decide) dL_law_141 ?_
    refine v_bipush (pc := 142) cx (by decide) dL_law_142 ?_
    refine v_iremI (pc := 144) cx (by omega) dL_law_144 ?_
    refine v_iadd (pc := 145) cx dL_law_145 ?_
    refine v_callVI (pc := 146) cx hR (c_addShower _ _ _ _ hx hk (by omega) (by omega) (by omega)) mlL_52 (by decide) hx0 rfl rfl rfl (Nat.le_of_ble_eq_true rfl) ⟨hzc, hzq⟩ dL_law_146 (fun r146 E146 hP => ?_)
    obtain ⟨hv, hx1, -⟩ := hP
    have hx1 : isX (fG X) E146 Φ := by rw [← eΦ]; exact hx1
    have hx0 := hx1.1
    rw [← hv] at aΦ
    have lastp : ∀ (Φ : Fs) (E : Wd), isX (fG X) E Φ → okX Φ → okP Φ.1 → Φ.1.1 0 = Ψ.1.1 0 → V X E (nh, c, q) 236 [some (.ref b), some (.ref (gb (fG X) + 0)), some (.int (iI 1)), some (.int (iI (k : Int))), some (.int (iI y)), some (.int (iI r146)), w6, w7, w8, w9, w10, w11] [] := by
      intro Φ E hx hk hp ht
      refine law_parts cx hR hnh (by omega) (by omega) hy hx hk hp (by omega) (by omega) r146 w6 w7 w8 w9 w10 w11 (fun Ψ' E' w4 w5 w6 w7 w8 w9 w10 w11 hx' hk' hp' hs' => ?_)
      refine v_iinc (pc := 415) cx ga3 (sa3 rfl) dL_law_415 ?_
      refine v_goto (pc := 418) cx 95 dL_law_418 rfl ?_
      exact ih (k + 1) (nh + 1) (c + 1) (q + 12) Ψ' E' w4 w5 w6 w7 w8 w9 w10 w11 (by omega) (by omega) (by omega) (by omega) (by omega) hx' hk' hp' (by omega)
    have rest : V X E146 (nh, c, q) 198 [some (.ref b), some (.ref (gb (fG X) + 0)), some (.int (iI 1)), some (.int (iI (k : Int))), some (.int (iI y)), some (.int (iI r146)), w6, w7, w8, w9, w10, w11] [.int (iI 1)] := by
      obtain ⟨Θ, eΘ, kΘ, pΘ, tΘ, fΘ⟩ := win_all kΦ pΦ
      have hse := kΦ.1.1.2.2.2.2.1
      have hse2 := kΘ.1.1.2.2.2.2.1
      have n26 := (vC (Ψ := Θ)).2.2.2.2.2.2.2.2.2.2.2.2
      refine v_istore_n (pc := 198) cx rfl (sa2 rfl) dL_law_198 ?_
      refine v_iload (pc := 199) cx ga4 dL_law_199 ?_
      refine v_iconst (pc := 201) cx dL_law_201 ?_
      refine v_iremI (pc := 202) cx (by omega) dL_law_202 ?_
      refine v_if_ne (pc := 203) cx 236 dL_law_203 rfl (by omega) (fun c203 => ?_) (fun c203 => ?_)
      · exact lastp Φ E146 hx1 kΦ pΦ tΦ
      refine v_iload_n (pc := 206) cx rfl ga2 dL_law_206 ?_
      refine v_if_eq (pc := 207) cx 234 dL_law_207 rfl (by omega) (fun c207 => ?_) (fun c207 => ?_)
      · omega
      refine v_aload_n (pc := 210) cx rfl ga1 dL_law_210 ?_
      refine v_callVI (pc := 211) cx hR (c_wind _ _ _ _ hx1 kΦ) mlL_56 (by decide) hx0 rfl rfl rfl (Nat.le_of_ble_eq_true rfl) ⟨hzc, hzq⟩ dL_law_211 (fun r211 E211 hP => ?_)
      obtain ⟨hw, hx2, -⟩ := hP
      have hx2 : isX (fG X) E211 Θ := by rw [← eΘ]; exact hx2
      have hx0 := hx2.1
      have hw : r211 = Φ.1.1 4 := hw
      subst hw
      refine v_if_lt (pc := 214) cx 234 dL_law_214 rfl (by omega) (fun c214 => ?_) (fun c214 => ?_)
      · omega
      refine v_aload_n (pc := 217) cx rfl ga1 dL_law_217 ?_
      refine v_callVI (pc := 218) cx hR (c_untilStop _ _ _ _ hx2 kΘ) mlL_59 (by decide) hx0 rfl rfl rfl (Nat.le_of_ble_eq_true rfl) ⟨hzc, hzq⟩ dL_law_218 (fun r218 E218 hP => ?_)
      obtain ⟨rfl, rfl⟩ := hP
      refine v_aload_n (pc := 221) cx rfl ga1 dL_law_221 ?_
      refine v_bipush (pc := 222) cx (by decide) dL_law_222 ?_
      refine v_callVI (pc := 224) cx hR (c_count _ _ _ _ hx2 kΘ (by omega)) mlL_15 (by decide) hx0 rfl rfl rfl (Nat.le_of_ble_eq_true rfl) ⟨hzc, hzq⟩ dL_law_224 (fun r224 E224 hP => ?_)
      obtain ⟨rfl, rfl⟩ := hP
      refine v_icmp_ne (pc := 227) cx 234 dL_law_227 rfl (by omega) (fun c227 => ?_) (fun c227 => ?_)
      · omega
      refine v_iconst (pc := 230) cx dL_law_230 ?_
      refine v_goto (pc := 231) cx 235 dL_law_231 rfl ?_
      refine v_istore_n (pc := 235) cx rfl (sa2 rfl) dL_law_235 ?_
      exact lastp Θ _ hx2 kΘ pΘ (tΘ.trans tΦ)
    refine v_istore (pc := 149) cx (sa5 rfl) dL_law_149 ?_
    refine v_iload (pc := 151) cx ga5 dL_law_151 ?_
    refine v_bipush (pc := 153) cx (by decide) dL_law_153 ?_
    refine v_icmp_ne (pc := 155) cx 168 dL_law_155 rfl (by omega) (fun c155 => ?_) (fun c155 => ?_)
    · rcases aΦ with aΦ | aΦ
      · omega
      refine v_iload (pc := 168) cx ga5 dL_law_168 ?_
      refine v_if_lt (pc := 170) cx 197 dL_law_170 rfl (by omega) (fun c170 => ?_) (fun c170 => ?_)
      · omega
      refine v_aload_n (pc := 173) cx rfl ga1 dL_law_173 ?_
      refine v_iload (pc := 174) cx ga5 dL_law_174 ?_
      refine v_iconst (pc := 176) cx dL_law_176 ?_
      refine v_callVI (pc := 177) cx hR (c_shower _ _ _ _ hx1 kΦ (by omega) (by omega)) mlL_25 (by decide) hx0 rfl rfl rfl (Nat.le_of_ble_eq_true rfl) ⟨hzc, hzq⟩ dL_law_177 (fun r177 E177 hP => ?_)
      obtain ⟨rfl, rfl⟩ := hP
      refine v_iconst (pc := 180) cx dL_law_180 ?_
      refine v_iload (pc := 181) cx ga4 dL_law_181 ?_
      refine v_bipush (pc := 183) cx (by decide) dL_law_183 ?_
      refine v_ishrI (pc := 185) cx 12 4096 (by omega) (by decide) (by decide) dL_law_185 ?_
      refine v_bipush (pc := 186) cx (by decide) dL_law_186 ?_
      refine v_iremI (pc := 188) cx (by omega) dL_law_188 ?_
      refine v_iadd (pc := 189) cx dL_law_189 ?_
      refine v_icmp_ne (pc := 190) cx 197 dL_law_190 rfl (by omega) (fun c190 => ?_) (fun c190 => ?_)
      · omega
      refine v_iconst (pc := 193) cx dL_law_193 ?_
      refine v_goto (pc := 194) cx 198 dL_law_194 rfl ?_
      exact rest
    · rcases aΦ with aΦ | aΦ
      · refine v_aload_n (pc := 158) cx rfl ga1 dL_law_158 ?_
        refine v_iconst (pc := 159) cx dL_law_159 ?_
        refine v_callVI (pc := 160) cx hR (c_count _ _ _ _ hx1 kΦ (by omega)) mlL_15 (by decide) hx0 rfl rfl rfl (Nat.le_of_ble_eq_true rfl) ⟨hzc, hzq⟩ dL_law_160 (fun r160 E160 hP => ?_)
        obtain ⟨rfl, rfl⟩ := hP
        refine v_bipush (pc := 163) cx (by decide) dL_law_163 ?_
        refine v_icmp_eq (pc := 165) cx 193 dL_law_165 rfl (by omega) (fun c165 => ?_) (fun c165 => ?_)
        · refine v_iconst (pc := 193) cx dL_law_193 ?_
          refine v_goto (pc := 194) cx 198 dL_law_194 rfl ?_
          exact rest
        · omega
      · omega
set_option maxRecDepth 100000 in
set_option maxHeartbeats 4000000 in
theorem law_start (cx : Cx X cL_law RL) (hR : RM X 8 144 4221) (hX : va_X b L xs (fS X) (fS X).heap) (hb : b < (fS X).heap.size ∧ b < gb (fG X)) (hL : L ≤ 260) (fin : ∀ (nh c q : Nat) (E : Wd) (ls : List (Option Value)), c ≤ 144 → q ≤ 4221 → V X E (nh, c, q) 640 ls [.int (iI 1)]) : V X (fun _ => none) (0, 0, 0) 0 [some (.ref b), none, none, none, none, none, none, none, none, none, none, none] [] := by
  have hzc : 124 ≤ 144 := by omega
  have hzq : 3981 ≤ 4221 := by omega
  refine v_new (pc := 0) cx hR nwL_10 ⟨Nat.le_of_ble_eq_true rfl, Nat.le_of_ble_eq_true rfl⟩ dL_law_0 (fun E0 hE0 hF0 => ?_)
  replace hE0 : E0 (0) = _ := hE0
  replace hF0 : ∀ j, j ≠ 0 → E0 j = _ := hF0
  refine v_dup (pc := 3) cx rfl dL_law_3 ?_
  refine v_callK (pc := 4) cx hR (k_X _ _ _ _ rfl hE0) mlL_44 (by decide) rfl (Nat.le_of_ble_eq_true rfl) ⟨Nat.le_of_ble_eq_true rfl, Nat.le_of_ble_eq_true rfl⟩ dL_law_4 (fun E4 hP => ?_)
  show V X _ (124, 124, 3981) _ _ _
  obtain ⟨hx, -⟩ := hP
  have hk := okX_σ0
  have hp : okP ((σ0, [], []) : Fs).1 := okP_σ0
  have hx0 := hx.1
  refine v_astore_n (pc := 7) cx rfl (sa1 rfl) dL_law_7 ?_
  refine v_aload_n (pc := 8) cx rfl ga1 dL_law_8 ?_
  refine v_callSI (pc := 9) cx hR (c_holds _ _ _ _ hx hk hp) mlL_35 (by decide) rfl (Nat.le_of_ble_eq_true rfl) ⟨hzc, hzq⟩ dL_law_9 (fun r9 E9 hP => ?_)
  obtain ⟨rfl, rfl⟩ := hP
  refine v_if_eq (pc := 12) cx 91 dL_law_12 rfl (by omega) (fun c12 => ?_) (fun c12 => ?_)
  · omega
  refine v_aload_n (pc := 15) cx rfl ga1 dL_law_15 ?_
  refine v_iconst (pc := 16) cx dL_law_16 ?_
  refine v_bipush (pc := 17) cx (by decide) dL_law_17 ?_
  refine v_aload_n (pc := 19) cx rfl ga0 dL_law_19 ?_
  refine v_iconst (pc := 20) cx dL_law_20 ?_
  refine v_callX (pc := 21) cx hR hX hb (c_cell _ _ _ _ (k := 0) hb.2 hL (by omega)) mlL_45 (by decide) rfl (Nat.le_of_ble_eq_true rfl) ⟨hzc, hzq⟩ dL_law_21 (fun y1 E21 hP => ?_)
  obtain ⟨hy1, rfl⟩ := hP
  refine v_sipush (pc := 24) cx (by decide) dL_law_24 ?_
  refine v_iremI (pc := 27) cx (by omega) dL_law_27 ?_
  refine v_iadd (pc := 28) cx dL_law_28 ?_
  obtain ⟨Φ1, e1, k1, p1, v1, x1, s1, m1, l1⟩ := set_all (Ψ := (σ0, [], [])) (w := 0) (x := 20 + y1 % 150) (i := 11) (lo := 20) (hi := 500) hk hp (by omega) (by omega) rfl rfl rfl (by omega)
  refine v_callVI (pc := 29) cx hR (c_set _ _ _ _ hx hk (by omega) (by omega)) mlL_49 (by decide) hx0 rfl rfl rfl (Nat.le_of_ble_eq_true rfl) ⟨hzc, hzq⟩ dL_law_29 (fun r29 E29 hP => ?_)
  obtain ⟨hv, hx1, -⟩ := hP
  have hv : r29 = 100 := hv.trans v1
  have hx1 : isX (fG X) E29 Φ1 := by rw [← e1]; exact hx1
  have hx0 := hx1.1
  subst hv
  refine v_bipush (pc := 32) cx (by decide) dL_law_32 ?_
  refine v_icmp_ne (pc := 34) cx 91 dL_law_34 rfl (by omega) (fun c34 => ?_) (fun c34 => ?_)
  · omega
  refine v_aload_n (pc := 37) cx rfl ga1 dL_law_37 ?_
  refine v_iconst (pc := 38) cx dL_law_38 ?_
  refine v_aload_n (pc := 39) cx rfl ga0 dL_law_39 ?_
  refine v_iconst (pc := 40) cx dL_law_40 ?_
  refine v_callX (pc := 41) cx hR hX hb (c_cell _ _ _ _ (k := 1) hb.2 hL (by omega)) mlL_45 (by decide) rfl (Nat.le_of_ble_eq_true rfl) ⟨hzc, hzq⟩ dL_law_41 (fun y2 E41 hP => ?_)
  obtain ⟨hy2, rfl⟩ := hP
  refine v_bipush (pc := 44) cx (by decide) dL_law_44 ?_
  refine v_iremI (pc := 46) cx (by omega) dL_law_46 ?_
  obtain ⟨Φ2, e2, k2, p2, v2, x2, s2, m2, l2⟩ := set_all (Ψ := Φ1) (w := 1) (x := y2 % 10) (i := 12) (lo := 0) (hi := 20) k1 p1 (by omega) (by omega) rfl rfl rfl (by omega)
  refine v_callVI (pc := 47) cx hR (c_set _ _ _ _ hx1 k1 (by omega) (by omega)) mlL_49 (by decide) hx0 rfl rfl rfl (Nat.le_of_ble_eq_true rfl) ⟨hzc, hzq⟩ dL_law_47 (fun r47 E47 hP => ?_)
  obtain ⟨hv, hx2, -⟩ := hP
  have hv : r47 = 2 := (hv.trans v2).trans (s1 12 (by decide))
  have hx2 : isX (fG X) E47 Φ2 := by rw [← e2]; exact hx2
  have hx0 := hx2.1
  subst hv
  refine v_iconst (pc := 50) cx dL_law_50 ?_
  refine v_icmp_ne (pc := 51) cx 91 dL_law_51 rfl (by omega) (fun c51 => ?_) (fun c51 => ?_)
  · omega
  refine v_aload_n (pc := 54) cx rfl ga1 dL_law_54 ?_
  refine v_iconst (pc := 55) cx dL_law_55 ?_
  refine v_aload_n (pc := 56) cx rfl ga0 dL_law_56 ?_
  refine v_iconst (pc := 57) cx dL_law_57 ?_
  refine v_callX (pc := 58) cx hR hX hb (c_cell _ _ _ _ (k := 2) hb.2 hL (by omega)) mlL_45 (by decide) rfl (Nat.le_of_ble_eq_true rfl) ⟨hzc, hzq⟩ dL_law_58 (fun y3 E58 hP => ?_)
  obtain ⟨hy3, rfl⟩ := hP
  refine v_iconst (pc := 61) cx dL_law_61 ?_
  refine v_iremI (pc := 62) cx (by omega) dL_law_62 ?_
  obtain ⟨Φ3, e3, k3, p3, v3, x3, s3, m3, l3⟩ := set_all (Ψ := Φ2) (w := 4) (x := y3 % 5) (i := 15) (lo := 0) (hi := 50) k2 p2 (by omega) (by omega) rfl rfl rfl (by omega)
  refine v_callVI (pc := 63) cx hR (c_set _ _ _ _ hx2 k2 (by omega) (by omega)) mlL_49 (by decide) hx0 rfl rfl rfl (Nat.le_of_ble_eq_true rfl) ⟨hzc, hzq⟩ dL_law_63 (fun r63 E63 hP => ?_)
  obtain ⟨hv, hx3, -⟩ := hP
  have hv : r63 = 0 := (hv.trans v3).trans ((s2 15 (by decide)).trans (s1 15 (by decide)))
  have hx3 : isX (fG X) E63 Φ3 := by rw [← e3]; exact hx3
  have hx0 := hx3.1
  subst hv
  refine v_if_ne (pc := 66) cx 91 dL_law_66 rfl (by omega) (fun c66 => ?_) (fun c66 => ?_)
  · omega
  refine v_aload_n (pc := 69) cx rfl ga1 dL_law_69 ?_
  refine v_iconst (pc := 70) cx dL_law_70 ?_
  refine v_aload_n (pc := 71) cx rfl ga0 dL_law_71 ?_
  refine v_iconst (pc := 72) cx dL_law_72 ?_
  refine v_callX (pc := 73) cx hR hX hb (c_cell _ _ _ _ (k := 3) hb.2 hL (by omega)) mlL_45 (by decide) rfl (Nat.le_of_ble_eq_true rfl) ⟨hzc, hzq⟩ dL_law_73 (fun y4 E73 hP => ?_)
  obtain ⟨hy4, rfl⟩ := hP
  refine v_bipush (pc := 76) cx (by decide) dL_law_76 ?_
  refine v_iremI (pc := 78) cx (by omega) dL_law_78 ?_
  obtain ⟨Φ4, e4, k4, p4, v4, x4, s4, m4, l4⟩ := set_all (Ψ := Φ3) (w := 2) (x := y4 % 60) (i := 13) (lo := 0) (hi := 200) k3 p3 (by omega) (by omega) rfl rfl rfl (by omega)
  refine v_callVI (pc := 79) cx hR (c_set _ _ _ _ hx3 k3 (by omega) (by omega)) mlL_49 (by decide) hx0 rfl rfl rfl (Nat.le_of_ble_eq_true rfl) ⟨hzc, hzq⟩ dL_law_79 (fun r79 E79 hP => ?_)
  obtain ⟨hv, hx4, -⟩ := hP
  have hv : r79 = 10 := (hv.trans v4).trans ((s3 13 (by decide)).trans ((s2 13 (by decide)).trans (s1 13 (by decide))))
  have hx4 : isX (fG X) E79 Φ4 := by rw [← e4]; exact hx4
  have ht : Φ4.1.1 0 = 0 := (s4 0 (by decide)).trans ((s3 0 (by decide)).trans ((s2 0 (by decide)).trans (s1 0 (by decide))))
  subst hv
  refine v_bipush (pc := 82) cx (by decide) dL_law_82 ?_
  refine v_icmp_ne (pc := 84) cx 91 dL_law_84 rfl (by omega) (fun c84 => ?_) (fun c84 => ?_)
  · omega
  refine v_iconst (pc := 87) cx dL_law_87 ?_
  refine v_goto (pc := 88) cx 92 dL_law_88 rfl ?_
  refine v_istore_n (pc := 92) cx rfl (sa2 rfl) dL_law_92 ?_
  refine v_iconst (pc := 93) cx dL_law_93 ?_
  refine v_istore_n (pc := 94) cx rfl (sa3 rfl) dL_law_94 ?_
  exact law_loop cx hR hX hb hL fin 21 0 124 124 3981 Φ4 E79 none none none none none none none none (by omega) (by omega) (by omega) (by omega) (by omega) hx4 k4 p4 (by rw [ht]; omega)
end
end
section
/-! the law's entry -/
theorem lw_wd {m : MethodId} {below : List Frame} {b : Nat} {s : State} {p : Program} {l : Launch} {e : Env} {meth : Method} {c : Code} {G : Gc} (hx : p.tables.exec = Jvm.exec) (hb : c.code = code) (hr : meth.sig.returnType = ret) (hlocks : meth.locks = false) (hG : gb G = s.heap.size) (nh cn qn : Nat) (E : Wd) (ls : List (Option Value)) (hc : cn ≤ 144) (hq : qn ≤ 4221) : V (p, l, e, room_1, s, m, #[Value.ref b], below, meth, c, G, lw_Z below #[Value.ref b] s) E (nh, cn, qn) 640 ls [.int (iI 1)] := by
  intro H locs L1 h1
  show W p l e room_1 s m #[Value.ref b] below meth c H locs cn qn (lw_Z below #[Value.ref b] s) (F0 m 640 L1 [.int 1])
  refine va_forget (fun q hq => ?_) ?_
  · have := h1.2.2.1.2.2 q hq
    have this : gb G ≤ q.base := this
    rw [hG] at this
    exact this
  · refine W.widen (k := 600000) (n := 7302250) (Nat.le_trans hc (Nat.le_of_ble_eq_true rfl)) (Nat.le_trans hq (Nat.le_of_ble_eq_true rfl)) ?_
    exact lw_ret hx hb hr hlocks dL_law_640
theorem lw_tab0 {b : Nat} {s : State} {A : Nat → Prop} (hts : ∀ w ∈ lw_tbl, w.before #[Value.ref b] s = true) (hgv : (Jvm.Cond.and given_1 narrow_1).before #[Value.ref b] s = true) (hA : ∀ a : Nat, a < s.heap.size → ¬ A a) : ∃ t : Nat, va_Z RX11 (tbN 0) "[I" (.ref t) A s s.heap ∧ va_T .int t 8 (fun j => .int (iI (tbV 0 j))) A s s.heap := by
  have hs := flat_of_before _ hgv
  have harr : (Cond.arrayOf (.static "RainRecorder" "LEAST_VALUES" "[I") .int).before #[Value.ref b] s = true := hs _ (by decide +kernel)
  have hlen : (Cond.eq (.length (.static "RainRecorder" "LEAST_VALUES" "[I")) (.int 8)).before #[Value.ref b] s = true := hs _ (by decide +kernel)
  have h0 : (Cond.eq (.elem (.static "RainRecorder" "LEAST_VALUES" "[I") (.int 0)) (.int 20)).before #[Value.ref b] s = true := hs _ (by decide +kernel)
  have h1 : (Cond.eq (.elem (.static "RainRecorder" "LEAST_VALUES" "[I") (.int 1)) (.int 0)).before #[Value.ref b] s = true := hs _ (by decide +kernel)
  have h2 : (Cond.eq (.elem (.static "RainRecorder" "LEAST_VALUES" "[I") (.int 2)) (.int 0)).before #[Value.ref b] s = true := hs _ (by decide +kernel)
  have h3 : (Cond.eq (.elem (.static "RainRecorder" "LEAST_VALUES" "[I") (.int 3)) (.int 0)).before #[Value.ref b] s = true := hs _ (by decide +kernel)
  have h4 : (Cond.eq (.elem (.static "RainRecorder" "LEAST_VALUES" "[I") (.int 4)) (.int 0)).before #[Value.ref b] s = true := hs _ (by decide +kernel)
  have h5 : (Cond.eq (.elem (.static "RainRecorder" "LEAST_VALUES" "[I") (.int 5)) (.int 10)).before #[Value.ref b] s = true := hs _ (by decide +kernel)
  have h6 : (Cond.eq (.elem (.static "RainRecorder" "LEAST_VALUES" "[I") (.int 6)) (.int 1)).before #[Value.ref b] s = true := hs _ (by decide +kernel)
  have h7 : (Cond.eq (.elem (.static "RainRecorder" "LEAST_VALUES" "[I") (.int 7)) (.int 1)).before #[Value.ref b] s = true := hs _ (by decide +kernel)
  obtain ⟨t, ht, hT⟩ := va_Tof (N := 8) (f := fun j => .int (iI (tbV 0 j))) (by decide) harr (va_eqt hlen) (fun j hj => by
    match j, hj with
    | 0, _ => exact va_eqt h0
    | 1, _ => exact va_eqt h1
    | 2, _ => exact va_eqt h2
    | 3, _ => exact va_eqt h3
    | 4, _ => exact va_eqt h4
    | 5, _ => exact va_eqt h5
    | 6, _ => exact va_eqt h6
    | 7, _ => exact va_eqt h7
    | j + 8, hj => omega) hA
  exact ⟨t, va_Zof (hts (.laysStatic "RainRecorder" "LEAST_VALUES" "[I") (List.mem_of_getElem? (i := 453) (by decide +kernel))) (hts (.initialized "RainRecorder") (List.mem_of_getElem? (i := 10) (by decide +kernel))) ht hA, hT⟩
theorem lw_tab1 {b : Nat} {s : State} {A : Nat → Prop} (hts : ∀ w ∈ lw_tbl, w.before #[Value.ref b] s = true) (hgv : (Jvm.Cond.and given_1 narrow_1).before #[Value.ref b] s = true) (hA : ∀ a : Nat, a < s.heap.size → ¬ A a) : ∃ t : Nat, va_Z RX11 (tbN 1) "[I" (.ref t) A s s.heap ∧ va_T .int t 8 (fun j => .int (iI (tbV 1 j))) A s s.heap := by
  have hs := flat_of_before _ hgv
  have harr : (Cond.arrayOf (.static "RainRecorder" "GREATEST_VALUES" "[I") .int).before #[Value.ref b] s = true := hs _ (by decide +kernel)
  have hlen : (Cond.eq (.length (.static "RainRecorder" "GREATEST_VALUES" "[I")) (.int 8)).before #[Value.ref b] s = true := hs _ (by decide +kernel)
  have h0 : (Cond.eq (.elem (.static "RainRecorder" "GREATEST_VALUES" "[I") (.int 0)) (.int 500)).before #[Value.ref b] s = true := hs _ (by decide +kernel)
  have h1 : (Cond.eq (.elem (.static "RainRecorder" "GREATEST_VALUES" "[I") (.int 1)) (.int 20)).before #[Value.ref b] s = true := hs _ (by decide +kernel)
  have h2 : (Cond.eq (.elem (.static "RainRecorder" "GREATEST_VALUES" "[I") (.int 2)) (.int 200)).before #[Value.ref b] s = true := hs _ (by decide +kernel)
  have h3 : (Cond.eq (.elem (.static "RainRecorder" "GREATEST_VALUES" "[I") (.int 3)) (.int 50)).before #[Value.ref b] s = true := hs _ (by decide +kernel)
  have h4 : (Cond.eq (.elem (.static "RainRecorder" "GREATEST_VALUES" "[I") (.int 4)) (.int 50)).before #[Value.ref b] s = true := hs _ (by decide +kernel)
  have h5 : (Cond.eq (.elem (.static "RainRecorder" "GREATEST_VALUES" "[I") (.int 5)) (.int 1000)).before #[Value.ref b] s = true := hs _ (by decide +kernel)
  have h6 : (Cond.eq (.elem (.static "RainRecorder" "GREATEST_VALUES" "[I") (.int 6)) (.int 2000)).before #[Value.ref b] s = true := hs _ (by decide +kernel)
  have h7 : (Cond.eq (.elem (.static "RainRecorder" "GREATEST_VALUES" "[I") (.int 7)) (.int 1000)).before #[Value.ref b] s = true := hs _ (by decide +kernel)
  obtain ⟨t, ht, hT⟩ := va_Tof (N := 8) (f := fun j => .int (iI (tbV 1 j))) (by decide) harr (va_eqt hlen) (fun j hj => by
    match j, hj with
    | 0, _ => exact va_eqt h0
    | 1, _ => exact va_eqt h1
    | 2, _ => exact va_eqt h2
    | 3, _ => exact va_eqt h3
    | 4, _ => exact va_eqt h4
    | 5, _ => exact va_eqt h5
    | 6, _ => exact va_eqt h6
    | 7, _ => exact va_eqt h7
    | j + 8, hj => omega) hA
  exact ⟨t, va_Zof (hts (.laysStatic "RainRecorder" "GREATEST_VALUES" "[I") (List.mem_of_getElem? (i := 455) (by decide +kernel))) (hts (.initialized "RainRecorder") (List.mem_of_getElem? (i := 10) (by decide +kernel))) ht hA, hT⟩
theorem lw_tab2 {b : Nat} {s : State} {A : Nat → Prop} (hts : ∀ w ∈ lw_tbl, w.before #[Value.ref b] s = true) (hgv : (Jvm.Cond.and given_1 narrow_1).before #[Value.ref b] s = true) (hA : ∀ a : Nat, a < s.heap.size → ¬ A a) : ∃ t : Nat, va_Z RX11 (tbN 2) "[I" (.ref t) A s s.heap ∧ va_T .int t 8 (fun j => .int (iI (tbV 2 j))) A s s.heap := by
  have hs := flat_of_before _ hgv
  have harr : (Cond.arrayOf (.static "RainRecorder" "FIRST_VALUES" "[I") .int).before #[Value.ref b] s = true := hs _ (by decide +kernel)
  have hlen : (Cond.eq (.length (.static "RainRecorder" "FIRST_VALUES" "[I")) (.int 8)).before #[Value.ref b] s = true := hs _ (by decide +kernel)
  have h0 : (Cond.eq (.elem (.static "RainRecorder" "FIRST_VALUES" "[I") (.int 0)) (.int 100)).before #[Value.ref b] s = true := hs _ (by decide +kernel)
  have h1 : (Cond.eq (.elem (.static "RainRecorder" "FIRST_VALUES" "[I") (.int 1)) (.int 2)).before #[Value.ref b] s = true := hs _ (by decide +kernel)
  have h2 : (Cond.eq (.elem (.static "RainRecorder" "FIRST_VALUES" "[I") (.int 2)) (.int 10)).before #[Value.ref b] s = true := hs _ (by decide +kernel)
  have h3 : (Cond.eq (.elem (.static "RainRecorder" "FIRST_VALUES" "[I") (.int 3)) (.int 1)).before #[Value.ref b] s = true := hs _ (by decide +kernel)
  have h4 : (Cond.eq (.elem (.static "RainRecorder" "FIRST_VALUES" "[I") (.int 4)) (.int 0)).before #[Value.ref b] s = true := hs _ (by decide +kernel)
  have h5 : (Cond.eq (.elem (.static "RainRecorder" "FIRST_VALUES" "[I") (.int 5)) (.int 360)).before #[Value.ref b] s = true := hs _ (by decide +kernel)
  have h6 : (Cond.eq (.elem (.static "RainRecorder" "FIRST_VALUES" "[I") (.int 6)) (.int 500)).before #[Value.ref b] s = true := hs _ (by decide +kernel)
  have h7 : (Cond.eq (.elem (.static "RainRecorder" "FIRST_VALUES" "[I") (.int 7)) (.int 60)).before #[Value.ref b] s = true := hs _ (by decide +kernel)
  obtain ⟨t, ht, hT⟩ := va_Tof (N := 8) (f := fun j => .int (iI (tbV 2 j))) (by decide) harr (va_eqt hlen) (fun j hj => by
    match j, hj with
    | 0, _ => exact va_eqt h0
    | 1, _ => exact va_eqt h1
    | 2, _ => exact va_eqt h2
    | 3, _ => exact va_eqt h3
    | 4, _ => exact va_eqt h4
    | 5, _ => exact va_eqt h5
    | 6, _ => exact va_eqt h6
    | 7, _ => exact va_eqt h7
    | j + 8, hj => omega) hA
  exact ⟨t, va_Zof (hts (.laysStatic "RainRecorder" "FIRST_VALUES" "[I") (List.mem_of_getElem? (i := 117) (by decide +kernel))) (hts (.initialized "RainRecorder") (List.mem_of_getElem? (i := 10) (by decide +kernel))) ht hA, hT⟩
set_option maxRecDepth 100000 in
theorem lw_cls {b : Nat} {s : State} (hts : ∀ w ∈ lw_tbl, w.before #[Value.ref b] s = true) : ∃ D : va_G, ∀ (c : Nat) (q : vw_C), vwCl[c]? = some q → u_Kn s q.1 q.2.1 q.2.2 (D.1 c) (D.2 c) := by
  have hTB : ∀ w ∈ TB, w.before #[Value.ref b] s = true := fun w hw => hts w (List.mem_filter.mp hw).1
  have key : ∀ c : Nat, ∃ d : ClassId × (Nat → Nat), ∀ q : vw_C, vwCl[c]? = some q → u_Kn s q.1 q.2.1 q.2.2 d.1 d.2 := by
    intro c
    match c with
    | 0 =>
      obtain ⟨cC, iS, h⟩ := u_known (C := RX0) (T := TX0) (N := 6) (n := 6) hTB tb_in0 (hts (.instantiable RX0 6) (List.mem_of_getElem? (i := 78) (by decide +kernel)))
      exact ⟨(cC, iS), fun q hq => by cases hq; exact h⟩
    | 1 =>
      obtain ⟨cC, iS, h⟩ := u_known (C := RX1) (T := TX1) (N := 2) (n := 2) hTB tb_in1 (hts (.instantiable RX1 2) (List.mem_of_getElem? (i := 111) (by decide +kernel)))
      exact ⟨(cC, iS), fun q hq => by cases hq; exact h⟩
    | 2 =>
      obtain ⟨cC, iS, h⟩ := u_known (C := RX2) (T := TX2) (N := 2) (n := 2) hTB tb_in2 (hts (.instantiable RX2 2) (List.mem_of_getElem? (i := 63) (by decide +kernel)))
      exact ⟨(cC, iS), fun q hq => by cases hq; exact h⟩
    | 3 =>
      obtain ⟨cC, iS, h⟩ := u_known (C := RX3) (T := TX3) (N := 3) (n := 3) hTB tb_in3 (hts (.instantiable RX3 3) (List.mem_of_getElem? (i := 129) (by decide +kernel)))
      exact ⟨(cC, iS), fun q hq => by cases hq; exact h⟩
    | 4 =>
      obtain ⟨cC, iS, h⟩ := u_known (C := RX4) (T := TX4) (N := 2) (n := 2) hTB tb_in4 (hts (.instantiable RX4 2) (List.mem_of_getElem? (i := 220) (by decide +kernel)))
      exact ⟨(cC, iS), fun q hq => by cases hq; exact h⟩
    | 5 =>
      obtain ⟨cC, iS, h⟩ := u_known (C := RX5) (T := TX5) (N := 4) (n := 4) hTB tb_in5 (hts (.instantiable RX5 4) (List.mem_of_getElem? (i := 146) (by decide +kernel)))
      exact ⟨(cC, iS), fun q hq => by cases hq; exact h⟩
    | 6 =>
      obtain ⟨cC, iS, h⟩ := u_known (C := RX6) (T := TX6) (N := 3) (n := 3) hTB tb_in6 (hts (.instantiable RX6 3) (List.mem_of_getElem? (i := 237) (by decide +kernel)))
      exact ⟨(cC, iS), fun q hq => by cases hq; exact h⟩
    | 7 =>
      obtain ⟨cC, iS, h⟩ := u_known (C := RX7) (T := TX7) (N := 7) (n := 7) hTB tb_in7 (hts (.instantiable RX7 7) (List.mem_of_getElem? (i := 268) (by decide +kernel)))
      exact ⟨(cC, iS), fun q hq => by cases hq; exact h⟩
    | 8 =>
      obtain ⟨cC, iS, h⟩ := u_known (C := RX8) (T := TX8) (N := 4) (n := 4) hTB tb_in8 (hts (.instantiable RX8 4) (List.mem_of_getElem? (i := 39) (by decide +kernel)))
      exact ⟨(cC, iS), fun q hq => by cases hq; exact h⟩
    | 9 =>
      obtain ⟨cC, iS, h⟩ := u_known (C := RX9) (T := TX9) (N := 9) (n := 9) hTB tb_in9 (hts (.instantiable RX9 9) (List.mem_of_getElem? (i := 33) (by decide +kernel)))
      exact ⟨(cC, iS), fun q hq => by cases hq; exact h⟩
    | 10 =>
      obtain ⟨cC, iS, h⟩ := u_known (C := RX10) (T := TX10) (N := 2) (n := 2) hTB tb_in10 (hts (.instantiable RX10 2) (List.mem_of_getElem? (i := 254) (by decide +kernel)))
      exact ⟨(cC, iS), fun q hq => by cases hq; exact h⟩
    | 11 =>
      obtain ⟨cC, iS, h⟩ := u_known (C := RX11) (T := TX11) (N := 6) (n := 6) hTB tb_in11 (hts (.instantiable RX11 6) (List.mem_of_getElem? (i := 25) (by decide +kernel)))
      exact ⟨(cC, iS), fun q hq => by cases hq; exact h⟩
    | k + 12 => exact ⟨(0, fun _ => 0), fun q hq => by simp [vwCl] at hq⟩
  obtain ⟨f, hf⟩ := Classical.axiomOfChoice key
  exact ⟨(fun c => (f c).1, fun c => (f c).2), hf⟩
theorem lw_arr {b : Nat} {s : State} {ty : FieldType} (h : (Cond.arrayClass ty).before #[Value.ref b] s = true) : ∃ cA : ClassId, ArrOfT s cA ty ∧ s.vm.findClass ("[" ++ ty.toString) = some cA := by
  obtain ⟨c, k, comp, h1, h2, h3⟩ := Cond.arrayClass_spec h
  exact ⟨c, fun N z => ⟨(fun k h => by cases h), k, h2, comp, h3⟩, h1⟩
theorem lw_arrS {b : Nat} {s : State} {C : String} (h : (Cond.arrayOver (.object C)).before #[Value.ref b] s = true) : ∃ cA : ClassId, ArrOfT s cA (.object C) ∧ va_RA s cA (.object C) := by
  obtain ⟨comp, c, k, h1, h2, h3, h4, h5⟩ := Cond.arrayOver_spec h
  exact ⟨c, fun N z => ⟨(fun k h => by cases h), k, h3, comp, h4⟩, k, comp, h3, h4, h1, h5⟩
theorem lw_nest {b : Nat} {s : State} (hts : ∀ w ∈ lw_tbl, w.before #[Value.ref b] s = true) : ∀ w ∈ TN, va_Nw w s := by
  intro w hw
  have h1 := hts w (List.mem_filter.mp hw).1
  have h2 := (List.mem_filter.mp hw).2
  cases w <;> first | exact va_Nw.of rfl h1 | cases h2
-- ===== YOUR PART BEGINS =====
set_option maxHeartbeats 4000000 in
theorem whole_start {p : Program} {e : Env} {s : State} {m : MethodId} {below : List Frame} {meth : Method} {c : Code} (l : Launch) (hflags : l.flags = flags0) {b L : Nat} {xs : Nat → Int32} (hL : L ≤ 260) (C0 : lw_At p s m meth c b L xs) : W p l e room_1 s m #[Value.ref b] below meth c s.heap [] 0 0 (lw_Z below #[Value.ref b] s) (entryFrame m ([Value.ref b] : List Value).toArray 12) := by
  obtain ⟨hx, hb, hr, hml, hown, hts, hX, hbl, hlocks, hgv⟩ := id C0
  have hA : ∀ a : Nat, a < s.heap.size → ¬ (fun q : Nat => s.heap.size ≤ q) a := fun a h => Nat.not_le.mpr h
  obtain ⟨D, hD⟩ := lw_cls hts
  obtain ⟨k0, a0, n0⟩ := lw_arr (hts (.arrayClass .int) (List.mem_of_getElem? (i := 61) (by decide +kernel)))
  obtain ⟨k1, a1, n1⟩ := lw_arr (hts (.arrayClass .char) (List.mem_of_getElem? (i := 266) (by decide +kernel)))
  obtain ⟨k2, a2, n2⟩ := lw_arr (hts (.arrayClass .boolean) (List.mem_of_getElem? (i := 252) (by decide +kernel)))
  have hao := hts (.arrayOver (.object RX9)) (List.mem_of_getElem? (i := 226) (by decide +kernel))
  obtain ⟨k3, a3, n3⟩ := lw_arrS hao
  obtain ⟨t0, z0, T0⟩ := lw_tab0 hts hgv hA
  obtain ⟨t1, z1, T1⟩ := lw_tab1 hts hgv hA
  obtain ⟨t2, z2, T2⟩ := lw_tab2 hts hgv hA
  obtain ⟨G, hGD, hGK, hGb, hGT⟩ : ∃ G : Gc, gD G = D ∧ gK G = (fun k => if k = 0 then k0 else if k = 1 then k1 else if k = 2 then k2 else k3) ∧ gb G = s.heap.size ∧ gT G = (fun k => if k = 0 then t0 else if k = 1 then t1 else t2) := ⟨(D, _, s.heap.size, _), rfl, rfl, rfl, rfl⟩
  have hK : va_K (gD G) vwCl (gtys G) s := by
    refine ⟨by rw [hGD]; exact hD, fun k q hq => ?_⟩
    unfold gtys at hq
    rw [hGK] at hq
    match k, hq with
    | 0, hq => cases hq; exact ⟨a0, n0⟩
    | 1, hq => cases hq; exact ⟨a1, n1⟩
    | 2, hq => cases hq; exact ⟨a2, n2⟩
    | 3, hq => cases hq; exact ⟨a3, n3⟩
    | k + 4, hq => simp at hq
  have hO : gO G = (fun q : Nat => s.heap.size ≤ q) := by unfold gO; rw [hGb]
  have hZ : Zf G s s.heap := by
    intro i hi
    rw [hO, hGT]
    match i, hi with
    | 0, _ => exact ⟨z0, T0⟩
    | 1, _ => exact ⟨z1, T1⟩
    | 2, _ => exact ⟨z2, T2⟩
    | i + 3, hi => omega
  have cx : Cx (p, l, e, room_1, s, m, #[Value.ref b], below, meth, c, G, lw_Z below #[Value.ref b] s) cL_law RL := ⟨hx, hb, hown, fun w hw => hts w (List.mem_filter.mp hw).1, ⟨hK, hZ, lw_nest hts, va_AO.of hao⟩, by show gb G ≤ s.heap.size; rw [hGb]; exact Nat.le_refl _⟩
  have hR : RM (p, l, e, room_1, s, m, #[Value.ref b], below, meth, c, G, lw_Z below #[Value.ref b] s) 8 144 4221 := ⟨Nat.le_of_ble_eq_true rfl, Nat.le_of_ble_eq_true rfl, Nat.le_of_ble_eq_true rfl, Nat.le_of_ble_eq_true rfl⟩
  have key := law_start cx hR (b := b) hX ⟨hbl, by show b < gb G; rw [hGb]; exact hbl⟩ hL (fun nh cn qn E ls hc hq => lw_wd hx hb hr hlocks hGb nh cn qn E ls hc hq)
  have hl := lv_entry ([.ref b]) (n := 12) (Nat.le_of_ble_eq_true rfl)
  rw [lg_entry_eq]
  generalize (lg_sl ([.ref b]) ++ List.replicate (12 - (lg_sl ([.ref b])).length) Slot.unset).toArray = ls at hl ⊢
  exact key s.heap [] ls ⟨(fun k x hk => by cases hk), (by show s.heap.size = gb G + 0; rw [hGb]; rfl), va_S.rf, hl, hml.symm⟩
-- ===== YOUR PART ENDS =====
set_option maxHeartbeats 4000000 in
theorem lw_walk (l : Launch) (hflags : l.flags = flags0) (b : Addr) (xs : List Int32) : MetFree l x (headSpec (Jvm.Cond.code x code maxLocals ret :: tables_1) room_1) (lw_P b xs) (fun _ _ _ _ _ => True) lw_Q := by
  refine MetFree.of_bodyS (code := code) (maxLocals := maxLocals) (ret := ret) (by decide) ?_ ?_
  · intro args s m h hn
    obtain ⟨meth, c, h1, h2, h3, h4, h5, h6, -, -⟩ := Cond.code_spec hn (atoms_spec (ws := Jvm.Cond.code x code maxLocals ret :: tables_1) h _ List.mem_cons_self)
    exact ⟨meth, c, h1, h2, h3, h4, h5, h6⟩
  · intro p e s m args below meth c s₁ B hml0 hP _
    obtain ⟨rfl, hx, hbd, hgv⟩ := hP
    obtain ⟨scr, harrAt, hlist, hof, hsmall⟩ := hx
    obtain ⟨hcb, hkn, -, -⟩ := State.arrayAt?_spec harrAt
    have hown : s.vm.findClass R_law = some m.cls := findClass_of_methodNamed B.named
    have hts0 : ∀ c ∈ (Jvm.Cond.code x code maxLocals ret :: tables_1), c.before #[Value.ref b] s = true := atoms_spec (ws := Jvm.Cond.code x code maxLocals ret :: tables_1) B.pre
    have hts : ∀ w ∈ lw_tbl, w.before #[Value.ref b] s = true := k2_hts_sels lw_privs (fun w hw => hts0 w (List.mem_cons_of_mem _ hw)) lw_privs_ok
    have hml : c.maxLocals = 12 := B.maxLocals_eq (hts0 _ List.mem_cons_self)
    have X₀ : Stand p l e room_1 s m #[Value.ref b] below meth c s₁ [] 0 0 := Stand.of_body B
    have hh0 : s₁.heap = s.heap := by rw [B.state]; rfl
    have hsz : scr.slots.size = xs.length := by rw [← Array.length_toList, hlist, List.length_map]
    have hval : ∀ j : Nat, j < xs.length → scr.slots[j]? = some (.int (xs.getD j 0)) := fun j hj => by
      rw [← Array.getElem?_toList, hlist]
      simp [hj]
    have hbl : b < s.heap.size := (Array.getElem?_eq_some_iff.mp hcb).1
    have hX : va_X b xs.length (fun j => xs.getD j 0) s s.heap := ⟨scr, hcb, hof, hkn, hsz, hval⟩
    have K : W p l e room_1 s m #[Value.ref b] below meth c s₁.heap [] 0 0 (lw_Z below #[Value.ref b] s) (entryFrame m ([Value.ref b] : List Value).toArray 12) := by
      rw [hh0]
      exact whole_start l hflags hbd ⟨B.exec, B.bytes, B.returns, hml, hown, hts, hX, hbl, B.notSynchronized, hgv⟩
    obtain ⟨t, a1, o, b1, b2, b3⟩ := K s₁ rfl X₀
    exact ⟨t, o, a1, b1, b2, b3⟩
theorem lw_pre_spec {args : Array Value} {s : State} (h : (Jvm.Cond.and given_1 narrow_1).before args s = true) (hr : rest_1_c.before args s = true) : ∃ (b : Addr) (xs : List Int32), lw_P b xs args s := by
  have hs := flat_of_before _ h
  have hq := flat_of_before _ hr
  have hc : (Cond.count 1).before args s = true := hs _ (by decide +kernel)
  have harr : (Cond.arrayOf (.arg 0) .int).before args s = true := hs _ (by decide +kernel)
  have hle : (Cond.le (.length (.arg 0)) (.int 260)).before args s = true := hs _ (by decide +kernel)
  have hlen : (Cond.isInt (.length (.arg 0))).before args s = true := hq _ (by decide +kernel)
  have hall : (Cond.all (.arg 0) (.isInt (.elem (.arg 0) (.index 0)))).before args s = true := hq _ (by decide +kernel)
  obtain ⟨b, xs, hb, hx⟩ := State.ints_of_pre rfl harr hlen hall
  have hsm : xs.length < 2 ^ 31 := hx.choose_spec.2.2.2
  have hev : (Term.length (.arg 0)).eval args s none [] s = some (.int xs.length.toInt32) := hx.length_eval hb
  have hv := Cond.le_ints hev (show (Term.int 260).eval args s none [] s = some (.int 260) from rfl)
  have hd : xs.length.toInt32 ≤ 260 := by
    simpa [Cond.before, Cond.holds, hv] using hle
  have hN : xs.length ≤ 260 := (Int32.ofNat_le_ofNat hsm (by decide)).mp (show Int32.ofNat xs.length ≤ Int32.ofNat 260 from hd)
  exact ⟨b, xs, Cond.one_arg hc (show args[0]? = some (.ref b) from hb), hx, hN, h⟩
theorem lw_comes (l : Launch) (hflags : l.flags = flags0) : Comes l x (Jvm.Cond.code x code maxLocals ret :: tables_1) room_1 (fun tb e args s => Calls_1 tb e args s ∧ rest_1 tb e args s ∧ Pre_1 tb e args s)
    (fun _ _ args s o t => lw_Q args s o t) := by
  intro p e ha hc hk s m args below hf hfit hheap happ hpre
  obtain ⟨b, xs, hP⟩ := lw_pre_spec hpre.2.2 hpre.2.1
  obtain ⟨k, o, h1, h2, h3, hQ⟩ := lw_walk l hflags b xs p e ha hc hk s m args below hf ((Spec.applies_iff_loose hf).mp happ).1 hP trivial
  exact ⟨k, o, h1, h2, h3, hQ⟩
theorem lw_frame {s t : State} {o : Outcome} {args : Array Value} (h : Framed s o t [] 600000 7302250) :
    Framed s o t (fieldLocs frame_1_writes args s ++ arrayLocs frame_1_arrays args s ++ staticLocs frame_1_statics s) 600000 7302250 := h
theorem lw_limb (L : Cond) (hL : ∀ (args : Array Value) (s t : State), L.after args s (.returned (some (.int 1))) t = true) :
    ArmFor flags0 classFile x code maxLocals ret World_1 tables_1 room_1 Calls_1 rest_1 Pre_1
      (fun tb e a s o t => postC L tb e a s o t ∧ Framed s o t (fieldLocs frame_1_writes a s ++ arrayLocs frame_1_arrays a s ++ staticLocs frame_1_statics s) 600000 7302250) := by
  intro l hflags _ _ p e ha hc hk s m args below hf hfit hheap happ hpre
  obtain ⟨k, o, h1, h2, h3, rfl, hF⟩ := lw_comes l hflags p e ha hc hk s m args below hf hfit hheap happ hpre
  exact ⟨k, _, h1, h2, h3, hL args s _, lw_frame hF⟩
theorem i_vc : Claimed_1_1 ∧ Claimed_1_2 := ⟨lw_limb limb_1_1 (fun args s t => by simp [limb_1_1, Cond.after, Cond.holds, Cond.value]), lw_limb limb_1_2 (fun args s t => Cond.after_iff.mpr (by
  first | (rw [show limb_1_2 = Cond.eq .result (.int 1) from rfl, Cond.eq_ints (x := 1) (y := 1) rfl rfl]; simp; done) | (simp [limb_1_2, Cond.value, Term.eval]; done)))⟩
end
