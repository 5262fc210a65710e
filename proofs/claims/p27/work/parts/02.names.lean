def RX0 : String := "RainRecorder$Bucket"
def TX0 : u_T := fun k => match k with
  | 0 => ("RainRecorder$Bucket", "content", "I", false)
  | 1 => ("RainRecorder$Bucket", "tipLeft", "I", false)
  | 2 => ("RainRecorder$Bucket", "tipped", "I", false)
  | 3 => ("RainRecorder$Bucket", "over", "I", false)
  | 4 => ("RainRecorder$Bucket", "lost", "I", false)
  | _ => ("RainRecorder$Bucket", "dried", "I", false)
def tyX0 : Nat → FieldType := fun k => match k with
  | 0 => .int
  | 1 => .int
  | 2 => .int
  | 3 => .int
  | 4 => .int
  | _ => .int
abbrev wsX00 : List Cond := u_ws RX0 TX0 6
theorem nmX0 : ∀ a, a < 6 → ∀ b, b < 6 → a ≠ b → (TX0 a).2.1 ≠ (TX0 b).2.1 := by decide +kernel
theorem tyX0_ok : ∀ k, k < 6 → parseFieldDescriptor (TX0 k).2.2.1 = some (tyX0 k) := by decide +kernel
abbrev cX0_init : ByteArray := prog_2_method_1_code
def yX0_init : MethodName := ⟨RX0, "<init>", "()V"⟩
abbrev cX0_copyFrom : ByteArray := prog_2_method_2_code
def yX0_copyFrom : MethodName := ⟨RX0, "copyFrom", "(LRainRecorder$Bucket;)V"⟩
abbrev cX0_passTick : ByteArray := prog_2_method_3_code
def yX0_passTick : MethodName := ⟨RX0, "passTick", "(IZIII)I"⟩
abbrev cX0_tip : ByteArray := prog_2_method_4_code
def yX0_tip : MethodName := ⟨RX0, "tip", "(II)I"⟩
def RX1 : String := "RainRecorder$Clock"
def TX1 : u_T := fun k => match k with
  | 0 => ("RainRecorder$Clock", "reserve", "I", false)
  | _ => ("RainRecorder$Clock", "counted", "I", false)
def tyX1 : Nat → FieldType := fun k => match k with
  | 0 => .int
  | _ => .int
abbrev wsX10 : List Cond := u_ws RX1 TX1 2
theorem nmX1 : ∀ a, a < 2 → ∀ b, b < 2 → a ≠ b → (TX1 a).2.1 ≠ (TX1 b).2.1 := by decide +kernel
theorem tyX1_ok : ∀ k, k < 2 → parseFieldDescriptor (TX1 k).2.2.1 = some (tyX1 k) := by decide +kernel
abbrev cX1_init : ByteArray := prog_3_method_1_code
def yX1_init : MethodName := ⟨RX1, "<init>", "()V"⟩
abbrev cX1_copyFrom : ByteArray := prog_3_method_2_code
def yX1_copyFrom : MethodName := ⟨RX1, "copyFrom", "(LRainRecorder$Clock;)V"⟩
abbrev cX1_passTick : ByteArray := prog_3_method_3_code
def yX1_passTick : MethodName := ⟨RX1, "passTick", "()V"⟩
def RX2 : String := "RainRecorder$Film"
def TX2 : u_T := fun k => match k with
  | 0 => ("RainRecorder$Film", "content", "I", false)
  | _ => ("RainRecorder$Film", "dried", "I", false)
def tyX2 : Nat → FieldType := fun k => match k with
  | 0 => .int
  | _ => .int
abbrev wsX20 : List Cond := u_ws RX2 TX2 2
theorem nmX2 : ∀ a, a < 2 → ∀ b, b < 2 → a ≠ b → (TX2 a).2.1 ≠ (TX2 b).2.1 := by decide +kernel
theorem tyX2_ok : ∀ k, k < 2 → parseFieldDescriptor (TX2 k).2.2.1 = some (tyX2 k) := by decide +kernel
abbrev cX2_init : ByteArray := prog_4_method_1_code
def yX2_init : MethodName := ⟨RX2, "<init>", "()V"⟩
abbrev cX2_copyFrom : ByteArray := prog_4_method_2_code
def yX2_copyFrom : MethodName := ⟨RX2, "copyFrom", "(LRainRecorder$Film;)V"⟩
abbrev cX2_passTick : ByteArray := prog_4_method_3_code
def yX2_passTick : MethodName := ⟨RX2, "passTick", "(III)I"⟩
def RX3 : String := "RainRecorder$Gears"
def TX3 : u_T := fun k => match k with
  | 0 => ("RainRecorder$Gears", "firsts", "[I", true)
  | 1 => ("RainRecorder$Gears", "seconds", "[I", true)
  | _ => ("RainRecorder$Gears", "size", "I", false)
def tyX3 : Nat → FieldType := fun k => match k with
  | 0 => .array .int
  | 1 => .array .int
  | _ => .int
abbrev wsX30 : List Cond := u_ws RX3 TX3 3
theorem nmX3 : ∀ a, a < 3 → ∀ b, b < 3 → a ≠ b → (TX3 a).2.1 ≠ (TX3 b).2.1 := by decide +kernel
theorem tyX3_ok : ∀ k, k < 3 → parseFieldDescriptor (TX3 k).2.2.1 = some (tyX3 k) := by decide +kernel
abbrev cX3_init : ByteArray := prog_5_method_1_code
def yX3_init : MethodName := ⟨RX3, "<init>", "()V"⟩
abbrev cX3_copyFrom : ByteArray := prog_5_method_2_code
def yX3_copyFrom : MethodName := ⟨RX3, "copyFrom", "(LRainRecorder$Gears;)V"⟩
abbrev cX3_placeOf : ByteArray := prog_5_method_6_code
def yX3_placeOf : MethodName := ⟨RX3, "placeOf", "(II)I"⟩
def RX4 : String := "RainRecorder$History"
def TX4 : u_T := fun k => match k with
  | 0 => ("RainRecorder$History", "states", "[LRainRecorder$State;", true)
  | _ => ("RainRecorder$History", "size", "I", false)
def tyX4 : Nat → FieldType := fun k => match k with
  | 0 => .array (.object "RainRecorder$State")
  | _ => .int
abbrev wsX40 : List Cond := u_ws RX4 TX4 2
theorem nmX4 : ∀ a, a < 2 → ∀ b, b < 2 → a ≠ b → (TX4 a).2.1 ≠ (TX4 b).2.1 := by decide +kernel
theorem tyX4_ok : ∀ k, k < 2 → parseFieldDescriptor (TX4 k).2.2.1 = some (tyX4 k) := by decide +kernel
abbrev cX4_init : ByteArray := prog_6_method_1_code
def yX4_init : MethodName := ⟨RX4, "<init>", "()V"⟩
abbrev cX4_keep : ByteArray := prog_6_method_2_code
def yX4_keep : MethodName := ⟨RX4, "keep", "(LRainRecorder$State;)V"⟩
abbrev cX4_dropOldest : ByteArray := prog_6_method_3_code
def yX4_dropOldest : MethodName := ⟨RX4, "dropOldest", "()V"⟩
abbrev cX4_restoreInto : ByteArray := prog_6_method_4_code
def yX4_restoreInto : MethodName := ⟨RX4, "restoreInto", "(LRainRecorder$State;)V"⟩
def RX5 : String := "RainRecorder$Marks"
def TX5 : u_T := fun k => match k with
  | 0 => ("RainRecorder$Marks", "ticks", "[I", true)
  | 1 => ("RainRecorder$Marks", "places", "[I", true)
  | 2 => ("RainRecorder$Marks", "overs", "[I", true)
  | _ => ("RainRecorder$Marks", "size", "I", false)
def tyX5 : Nat → FieldType := fun k => match k with
  | 0 => .array .int
  | 1 => .array .int
  | 2 => .array .int
  | _ => .int
abbrev wsX50 : List Cond := u_ws RX5 TX5 4
theorem nmX5 : ∀ a, a < 4 → ∀ b, b < 4 → a ≠ b → (TX5 a).2.1 ≠ (TX5 b).2.1 := by decide +kernel
theorem tyX5_ok : ∀ k, k < 4 → parseFieldDescriptor (TX5 k).2.2.1 = some (tyX5 k) := by decide +kernel
abbrev cX5_init : ByteArray := prog_7_method_1_code
def yX5_init : MethodName := ⟨RX5, "<init>", "()V"⟩
abbrev cX5_copyFrom : ByteArray := prog_7_method_2_code
def yX5_copyFrom : MethodName := ⟨RX5, "copyFrom", "(LRainRecorder$Marks;)V"⟩
abbrev cX5_has : ByteArray := prog_7_method_3_code
def yX5_has : MethodName := ⟨RX5, "has", "(I)Z"⟩
abbrev cX5_append : ByteArray := prog_7_method_4_code
def yX5_append : MethodName := ⟨RX5, "append", "(III)V"⟩
abbrev cX5_removeOldest : ByteArray := prog_7_method_5_code
def yX5_removeOldest : MethodName := ⟨RX5, "removeOldest", "()V"⟩
abbrev cX5_ticksBetween : ByteArray := prog_7_method_6_code
def yX5_ticksBetween : MethodName := ⟨RX5, "ticksBetween", "(II)I"⟩
abbrev cX5_widestGap : ByteArray := prog_7_method_7_code
def yX5_widestGap : MethodName := ⟨RX5, "widestGap", "()I"⟩
abbrev cX5_beginsStorm : ByteArray := prog_7_method_8_code
def yX5_beginsStorm : MethodName := ⟨RX5, "beginsStorm", "(II)Z"⟩
abbrev cX5_countStorms : ByteArray := prog_7_method_9_code
def yX5_countStorms : MethodName := ⟨RX5, "countStorms", "(I)I"⟩
abbrev cX5_firstOfStorm : ByteArray := prog_7_method_10_code
def yX5_firstOfStorm : MethodName := ⟨RX5, "firstOfStorm", "(II)I"⟩
abbrev cX5_endOfStorm : ByteArray := prog_7_method_11_code
def yX5_endOfStorm : MethodName := ⟨RX5, "endOfStorm", "(II)I"⟩
abbrev cX5_lossBetweenTips : ByteArray := prog_7_method_12_code
def yX5_lossBetweenTips : MethodName := ⟨RX5, "lossBetweenTips", "(III)I"⟩
abbrev cX5_peak : ByteArray := prog_7_method_13_code
def yX5_peak : MethodName := ⟨RX5, "peak", "(II)I"⟩
def RX6 : String := "RainRecorder$Outlook"
def TX6 : u_T := fun k => match k with
  | 0 => ("RainRecorder$Outlook", "left", "[I", true)
  | 1 => ("RainRecorder$Outlook", "dry", "[Z", true)
  | _ => ("RainRecorder$Outlook", "size", "I", false)
def tyX6 : Nat → FieldType := fun k => match k with
  | 0 => .array .int
  | 1 => .array .boolean
  | _ => .int
abbrev wsX60 : List Cond := u_ws RX6 TX6 3
theorem nmX6 : ∀ a, a < 3 → ∀ b, b < 3 → a ≠ b → (TX6 a).2.1 ≠ (TX6 b).2.1 := by decide +kernel
theorem tyX6_ok : ∀ k, k < 3 → parseFieldDescriptor (TX6 k).2.2.1 = some (tyX6 k) := by decide +kernel
abbrev cX6_init : ByteArray := prog_8_method_1_code
def yX6_init : MethodName := ⟨RX6, "<init>", "()V"⟩
abbrev cX6_lookAhead : ByteArray := prog_8_method_2_code
def yX6_lookAhead : MethodName := ⟨RX6, "lookAhead", "(LRainRecorder$State;I)V"⟩
abbrev cX6_losesAtMost : ByteArray := prog_8_method_3_code
def yX6_losesAtMost : MethodName := ⟨RX6, "losesAtMost", "(IILRainRecorder$State;)Z"⟩
def RX7 : String := "RainRecorder$Reading"
def TX7 : u_T := fun k => match k with
  | 0 => ("RainRecorder$Reading", "begins", "[I", true)
  | 1 => ("RainRecorder$Reading", "lengths", "[I", true)
  | 2 => ("RainRecorder$Reading", "rates", "[I", true)
  | 3 => ("RainRecorder$Reading", "size", "I", false)
  | 4 => ("RainRecorder$Reading", "position", "I", false)
  | 5 => ("RainRecorder$Reading", "reason", "I", false)
  | _ => ("RainRecorder$Reading", "next", "I", false)
def tyX7 : Nat → FieldType := fun k => match k with
  | 0 => .array .int
  | 1 => .array .int
  | 2 => .array .int
  | 3 => .int
  | 4 => .int
  | 5 => .int
  | _ => .int
abbrev wsX70 : List Cond := u_ws RX7 TX7 7
theorem nmX7 : ∀ a, a < 7 → ∀ b, b < 7 → a ≠ b → (TX7 a).2.1 ≠ (TX7 b).2.1 := by decide +kernel
theorem tyX7_ok : ∀ k, k < 7 → parseFieldDescriptor (TX7 k).2.2.1 = some (tyX7 k) := by decide +kernel
abbrev cX7_init : ByteArray := prog_9_method_1_code
def yX7_init : MethodName := ⟨RX7, "<init>", "()V"⟩
def RX8 : String := "RainRecorder$Showers"
def TX8 : u_T := fun k => match k with
  | 0 => ("RainRecorder$Showers", "begins", "[I", true)
  | 1 => ("RainRecorder$Showers", "lengths", "[I", true)
  | 2 => ("RainRecorder$Showers", "rates", "[I", true)
  | _ => ("RainRecorder$Showers", "size", "I", false)
def tyX8 : Nat → FieldType := fun k => match k with
  | 0 => .array .int
  | 1 => .array .int
  | 2 => .array .int
  | _ => .int
abbrev wsX80 : List Cond := u_ws RX8 TX8 4
theorem nmX8 : ∀ a, a < 4 → ∀ b, b < 4 → a ≠ b → (TX8 a).2.1 ≠ (TX8 b).2.1 := by decide +kernel
theorem tyX8_ok : ∀ k, k < 4 → parseFieldDescriptor (TX8 k).2.2.1 = some (tyX8 k) := by decide +kernel
abbrev cX8_init : ByteArray := prog_10_method_1_code
def yX8_init : MethodName := ⟨RX8, "<init>", "()V"⟩
abbrev cX8_copyFrom : ByteArray := prog_10_method_2_code
def yX8_copyFrom : MethodName := ⟨RX8, "copyFrom", "(LRainRecorder$Showers;)V"⟩
abbrev cX8_has : ByteArray := prog_10_method_3_code
def yX8_has : MethodName := ⟨RX8, "has", "(I)Z"⟩
abbrev cX8_insert : ByteArray := prog_10_method_4_code
def yX8_insert : MethodName := ⟨RX8, "insert", "(III)I"⟩
abbrev cX8_removeEnded : ByteArray := prog_10_method_6_code
def yX8_removeEnded : MethodName := ⟨RX8, "removeEnded", "(I)V"⟩
abbrev cX8_move : ByteArray := prog_10_method_7_code
def yX8_move : MethodName := ⟨RX8, "move", "(II)V"⟩
abbrev cX8_rainIn : ByteArray := prog_10_method_8_code
def yX8_rainIn : MethodName := ⟨RX8, "rainIn", "(I)I"⟩
abbrev cX8_ticksToCome : ByteArray := prog_10_method_9_code
def yX8_ticksToCome : MethodName := ⟨RX8, "ticksToCome", "(II)I"⟩
def RX9 : String := "RainRecorder$State"
def TX9 : u_T := fun k => match k with
  | 0 => ("RainRecorder$State", "settings", "[I", true)
  | 1 => ("RainRecorder$State", "showers", "LRainRecorder$Showers;", true)
  | 2 => ("RainRecorder$State", "film", "LRainRecorder$Film;", true)
  | 3 => ("RainRecorder$State", "bucket", "LRainRecorder$Bucket;", true)
  | 4 => ("RainRecorder$State", "clock", "LRainRecorder$Clock;", true)
  | 5 => ("RainRecorder$State", "gears", "LRainRecorder$Gears;", true)
  | 6 => ("RainRecorder$State", "marks", "LRainRecorder$Marks;", true)
  | 7 => ("RainRecorder$State", "tick", "I", false)
  | _ => ("RainRecorder$State", "fell", "I", false)
def tyX9 : Nat → FieldType := fun k => match k with
  | 0 => .array .int
  | 1 => .object "RainRecorder$Showers"
  | 2 => .object "RainRecorder$Film"
  | 3 => .object "RainRecorder$Bucket"
  | 4 => .object "RainRecorder$Clock"
  | 5 => .object "RainRecorder$Gears"
  | 6 => .object "RainRecorder$Marks"
  | 7 => .int
  | _ => .int
abbrev wsX90 : List Cond := u_ws RX9 TX9 9
theorem nmX9 : ∀ a, a < 9 → ∀ b, b < 9 → a ≠ b → (TX9 a).2.1 ≠ (TX9 b).2.1 := by decide +kernel
theorem tyX9_ok : ∀ k, k < 9 → parseFieldDescriptor (TX9 k).2.2.1 = some (tyX9 k) := by decide +kernel
abbrev cX9_init : ByteArray := prog_11_method_1_code
def yX9_init : MethodName := ⟨RX9, "<init>", "()V"⟩
abbrev cX9_copyFrom : ByteArray := prog_11_method_2_code
def yX9_copyFrom : MethodName := ⟨RX9, "copyFrom", "(LRainRecorder$State;)V"⟩
abbrev cX9_passTicks : ByteArray := prog_11_method_3_code
def yX9_passTicks : MethodName := ⟨RX9, "passTicks", "(I)I"⟩
abbrev cX9_passTick : ByteArray := prog_11_method_4_code
def yX9_passTick : MethodName := ⟨RX9, "passTick", "()Z"⟩
abbrev cX9_drumPlace : ByteArray := prog_11_method_5_code
def yX9_drumPlace : MethodName := ⟨RX9, "drumPlace", "()I"⟩
abbrev cX9_accountOf : ByteArray := prog_11_method_6_code
def yX9_accountOf : MethodName := ⟨RX9, "accountOf", "(I)I"⟩
def RX10 : String := "RainRecorder$Text"
def TX10 : u_T := fun k => match k with
  | 0 => ("RainRecorder$Text", "characters", "[C", true)
  | _ => ("RainRecorder$Text", "length", "I", false)
def tyX10 : Nat → FieldType := fun k => match k with
  | 0 => .array .char
  | _ => .int
abbrev wsX100 : List Cond := u_ws RX10 TX10 2
theorem nmX10 : ∀ a, a < 2 → ∀ b, b < 2 → a ≠ b → (TX10 a).2.1 ≠ (TX10 b).2.1 := by decide +kernel
theorem tyX10_ok : ∀ k, k < 2 → parseFieldDescriptor (TX10 k).2.2.1 = some (tyX10 k) := by decide +kernel
abbrev cX10_init : ByteArray := prog_12_method_1_code
def yX10_init : MethodName := ⟨RX10, "<init>", "()V"⟩
def RX11 : String := "RainRecorder"
def TX11 : u_T := fun k => match k with
  | 0 => ("RainRecorder", "now", "LRainRecorder$State;", true)
  | 1 => ("RainRecorder", "trial", "LRainRecorder$State;", true)
  | 2 => ("RainRecorder", "history", "LRainRecorder$History;", true)
  | 3 => ("RainRecorder", "outlook", "LRainRecorder$Outlook;", true)
  | 4 => ("RainRecorder", "text", "LRainRecorder$Text;", true)
  | _ => ("RainRecorder", "reading", "LRainRecorder$Reading;", true)
def tyX11 : Nat → FieldType := fun k => match k with
  | 0 => .object "RainRecorder$State"
  | 1 => .object "RainRecorder$State"
  | 2 => .object "RainRecorder$History"
  | 3 => .object "RainRecorder$Outlook"
  | 4 => .object "RainRecorder$Text"
  | _ => .object "RainRecorder$Reading"
abbrev wsX110 : List Cond := u_ws RX11 TX11 6
theorem nmX11 : ∀ a, a < 6 → ∀ b, b < 6 → a ≠ b → (TX11 a).2.1 ≠ (TX11 b).2.1 := by decide +kernel
theorem tyX11_ok : ∀ k, k < 6 → parseFieldDescriptor (TX11 k).2.2.1 = some (tyX11 k) := by decide +kernel
abbrev cX11_init : ByteArray := prog_1_method_1_code
def yX11_init : MethodName := ⟨RX11, "<init>", "()V"⟩
abbrev cX11_addShower : ByteArray := prog_1_method_2_code
def yX11_addShower : MethodName := ⟨RX11, "addShower", "(III)I"⟩
abbrev cX11_shower : ByteArray := prog_1_method_4_code
def yX11_shower : MethodName := ⟨RX11, "shower", "(II)I"⟩
abbrev cX11_run : ByteArray := prog_1_method_5_code
def yX11_run : MethodName := ⟨RX11, "run", "(I)I"⟩
abbrev cX11_undo : ByteArray := prog_1_method_6_code
def yX11_undo : MethodName := ⟨RX11, "undo", "()I"⟩
abbrev cX11_set : ByteArray := prog_1_method_7_code
def yX11_set : MethodName := ⟨RX11, "set", "(II)I"⟩
abbrev cX11_wind : ByteArray := prog_1_method_8_code
def yX11_wind : MethodName := ⟨RX11, "wind", "()I"⟩
abbrev cX11_count : ByteArray := prog_1_method_12_code
def yX11_count : MethodName := ⟨RX11, "count", "(I)I"⟩
abbrev cX11_account : ByteArray := prog_1_method_13_code
def yX11_account : MethodName := ⟨RX11, "account", "(I)I"⟩
abbrev cX11_mark : ByteArray := prog_1_method_14_code
def yX11_mark : MethodName := ⟨RX11, "mark", "(II)I"⟩
abbrev cX11_storm : ByteArray := prog_1_method_15_code
def yX11_storm : MethodName := ⟨RX11, "storm", "(II)I"⟩
abbrev cX11_greatestStorm : ByteArray := prog_1_method_16_code
def yX11_greatestStorm : MethodName := ⟨RX11, "greatestStorm", "()I"⟩
abbrev cX11_gapForOne : ByteArray := prog_1_method_17_code
def yX11_gapForOne : MethodName := ⟨RX11, "gapForOne", "()I"⟩
abbrev cX11_ifRun : ByteArray := prog_1_method_18_code
def yX11_ifRun : MethodName := ⟨RX11, "ifRun", "(II)I"⟩
abbrev cX11_capacityFor : ByteArray := prog_1_method_19_code
def yX11_capacityFor : MethodName := ⟨RX11, "capacityFor", "(II)I"⟩
abbrev cX11_untilStop : ByteArray := prog_1_method_20_code
def yX11_untilStop : MethodName := ⟨RX11, "untilStop", "()I"⟩
abbrev cX11_errorOfTicks : ByteArray := prog_1_method_26_code
def yX11_errorOfTicks : MethodName := ⟨RX11, "errorOfTicks", "(I)I"⟩
abbrev cX11_amountOf : ByteArray := prog_1_method_27_code
def yX11_amountOf : MethodName := ⟨RX11, "amountOf", "(II)I"⟩
abbrev cX11_lossOf : ByteArray := prog_1_method_28_code
def yX11_lossOf : MethodName := ⟨RX11, "lossOf", "(II)I"⟩
abbrev cX11_isWithin : ByteArray := prog_1_method_29_code
def yX11_isWithin : MethodName := ⟨RX11, "isWithin", "(III)Z"⟩
abbrev cX11_quotient : ByteArray := prog_1_method_30_code
def yX11_quotient : MethodName := ⟨RX11, "quotient", "(II)I"⟩
abbrev cX11_copyRow : ByteArray := prog_1_method_31_code
def yX11_copyRow : MethodName := ⟨RX11, "copyRow", "([I[I)V"⟩
def RX12 : String := "RainRecorderModel"
def TX12 : u_T := fun k => match k with
  | _ => ("", "", "", false)
def tyX12 : Nat → FieldType := fun k => match k with
  | _ => .int
abbrev wsX120 : List Cond := u_ws RX12 TX12 0
theorem nmX12 : ∀ a, a < 0 → ∀ b, b < 0 → a ≠ b → (TX12 a).2.1 ≠ (TX12 b).2.1 := by decide +kernel
theorem tyX12_ok : ∀ k, k < 0 → parseFieldDescriptor (TX12 k).2.2.1 = some (tyX12 k) := by decide +kernel
def RJ9 : String := "java/lang/Math"
abbrev cJ9_floorDiv_7cf53 : ByteArray := prog_15_method_47_code
def yJ9_floorDiv_7cf53 : MethodName := ⟨RJ9, "floorDiv", "(II)I"⟩
abbrev cJ9_max_7cf53 : ByteArray := prog_15_method_65_code
def yJ9_max_7cf53 : MethodName := ⟨RJ9, "max", "(II)I"⟩
abbrev cJ9_min_7cf53 : ByteArray := prog_15_method_69_code
def yJ9_min_7cf53 : MethodName := ⟨RJ9, "min", "(II)I"⟩
def RJ10 : String := "java/lang/System"
def RL : String := "RainRecorderLaw"
abbrev cL_cell : ByteArray := method_2_code
def yL_cell : MethodName := ⟨RL, "cell", "([II)I"⟩
abbrev cL_holds : ByteArray := method_3_code
def yL_holds : MethodName := ⟨RL, "holds", "(LRainRecorder;)Z"⟩
abbrev cL_parted : ByteArray := method_4_code
def yL_parted : MethodName := ⟨RL, "parted", "(LRainRecorder;II)Z"⟩
abbrev cL_law : ByteArray := code
def yL_law : MethodName := ⟨RL, "law", "([I)Z"⟩
abbrev vwCl : List vw_C := [(RX0, TX0, 6), (RX1, TX1, 2), (RX2, TX2, 2), (RX3, TX3, 3), (RX4, TX4, 2), (RX5, TX5, 4), (RX6, TX6, 3), (RX7, TX7, 7), (RX8, TX8, 4), (RX9, TX9, 9), (RX10, TX10, 2), (RX11, TX11, 6)]
/-- the words that every method takes: those of the tables that stay while the machine goes on -/
def TB : List Cond := lw_tbl.filter goodWord
theorem TB_good : GoodIn TB TB := fun w h => ⟨h, good_of_word (List.mem_filter.mp h).2⟩
theorem tbm (i : Nat) {w : Cond} (h : lw_tbl[i]? = some w) (g : goodWord w = true) : w ∈ TB := List.mem_filter.mpr ⟨List.mem_of_getElem? h, g⟩
def nestWord : Cond → Bool
  | .methodLinkNest _ _ _ _ => true
  | .fieldLinkNest _ _ _ _ _ _ => true
  | _ => false
def TN : List Cond := lw_tbl.filter nestWord
theorem tnm (i : Nat) {w : Cond} (h : lw_tbl[i]? = some w) (g : nestWord w = true) : w ∈ TN := List.mem_filter.mpr ⟨List.mem_of_getElem? h, g⟩
theorem tb_sub {ws : List Cond} (h1 : ∀ w ∈ ws, w ∈ lw_tbl) (h2 : ws.all goodWord = true) : ∀ w ∈ ws, w ∈ TB := fun w h => List.mem_filter.mpr ⟨h1 w h, List.all_eq_true.mp h2 w h⟩
set_option maxRecDepth 100000 in
theorem tb_in0 : ∀ w ∈ u_ws RX0 TX0 6, w ∈ TB := tb_sub (by decide +kernel) (by decide +kernel)
set_option maxRecDepth 100000 in
theorem tb_in1 : ∀ w ∈ u_ws RX1 TX1 2, w ∈ TB := tb_sub (by decide +kernel) (by decide +kernel)
set_option maxRecDepth 100000 in
theorem tb_in2 : ∀ w ∈ u_ws RX2 TX2 2, w ∈ TB := tb_sub (by decide +kernel) (by decide +kernel)
set_option maxRecDepth 100000 in
theorem tb_in3 : ∀ w ∈ u_ws RX3 TX3 3, w ∈ TB := tb_sub (by decide +kernel) (by decide +kernel)
set_option maxRecDepth 100000 in
theorem tb_in4 : ∀ w ∈ u_ws RX4 TX4 2, w ∈ TB := tb_sub (by decide +kernel) (by decide +kernel)
set_option maxRecDepth 100000 in
theorem tb_in5 : ∀ w ∈ u_ws RX5 TX5 4, w ∈ TB := tb_sub (by decide +kernel) (by decide +kernel)
set_option maxRecDepth 100000 in
theorem tb_in6 : ∀ w ∈ u_ws RX6 TX6 3, w ∈ TB := tb_sub (by decide +kernel) (by decide +kernel)
set_option maxRecDepth 100000 in
theorem tb_in7 : ∀ w ∈ u_ws RX7 TX7 7, w ∈ TB := tb_sub (by decide +kernel) (by decide +kernel)
set_option maxRecDepth 100000 in
theorem tb_in8 : ∀ w ∈ u_ws RX8 TX8 4, w ∈ TB := tb_sub (by decide +kernel) (by decide +kernel)
set_option maxRecDepth 100000 in
theorem tb_in9 : ∀ w ∈ u_ws RX9 TX9 9, w ∈ TB := tb_sub (by decide +kernel) (by decide +kernel)
set_option maxRecDepth 100000 in
theorem tb_in10 : ∀ w ∈ u_ws RX10 TX10 2, w ∈ TB := tb_sub (by decide +kernel) (by decide +kernel)
set_option maxRecDepth 100000 in
theorem tb_in11 : ∀ w ∈ u_ws RX11 TX11 6, w ∈ TB := tb_sub (by decide +kernel) (by decide +kernel)
set_option maxRecDepth 100000 in
theorem tb_in12 : ∀ w ∈ u_ws RX12 TX12 0, w ∈ TB := tb_sub (by decide +kernel) (by decide +kernel)
