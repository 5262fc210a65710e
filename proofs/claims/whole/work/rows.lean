section
-- ===== PART A: goes FIRST, ahead of the names: the tables' words, and 'selects' of the private methods out of them =====
/-- a private method of a class that the tables say can be made, by its rows of tables_1 -/
def lw_okq (q : MethodName × Nat) : Prop := (q.1.cls ≠ "java/lang/invoke/MethodHandle" ∧ q.1.cls ≠ "java/lang/invoke/VarHandle") ∧ Cond.instantiable q.1.cls q.2 ∈ tables_1 ∧ Cond.privateMethod q.1 ∈ tables_1 ∧ Cond.instanceMethod q.1 ∈ tables_1
theorem lw_p0 : lw_okq (⟨"RainRecorder$History", "dropOldest", "()V"⟩, 2) := ⟨⟨by decide +kernel, by decide +kernel⟩, List.mem_of_getElem? (i := 214) (by decide +kernel), List.mem_of_getElem? (i := 328) (by decide +kernel), List.mem_of_getElem? (i := 329) (by decide +kernel)⟩
theorem lw_p1 : lw_okq (⟨"RainRecorder$Showers", "move", "(II)V"⟩, 4) := ⟨⟨by decide +kernel, by decide +kernel⟩, List.mem_of_getElem? (i := 31) (by decide +kernel), List.mem_of_getElem? (i := 367) (by decide +kernel), List.mem_of_getElem? (i := 368) (by decide +kernel)⟩
theorem lw_p2 : lw_okq (⟨"RainRecorder", "errorOfTicks", "(I)I"⟩, 6) := ⟨⟨by decide +kernel, by decide +kernel⟩, List.mem_of_getElem? (i := 17) (by decide +kernel), List.mem_of_getElem? (i := 399) (by decide +kernel), List.mem_of_getElem? (i := 400) (by decide +kernel)⟩
theorem lw_p3 : lw_okq (⟨"RainRecorder$State", "passTick", "()Z"⟩, 9) := ⟨⟨by decide +kernel, by decide +kernel⟩, List.mem_of_getElem? (i := 25) (by decide +kernel), List.mem_of_getElem? (i := 407) (by decide +kernel), List.mem_of_getElem? (i := 408) (by decide +kernel)⟩
theorem lw_p4 : lw_okq (⟨"RainRecorder$Bucket", "tip", "(II)I"⟩, 6) := ⟨⟨by decide +kernel, by decide +kernel⟩, List.mem_of_getElem? (i := 70) (by decide +kernel), List.mem_of_getElem? (i := 426) (by decide +kernel), List.mem_of_getElem? (i := 427) (by decide +kernel)⟩
theorem lw_p5 : lw_okq (⟨"RainRecorder$Marks", "removeOldest", "()V"⟩, 4) := ⟨⟨by decide +kernel, by decide +kernel⟩, List.mem_of_getElem? (i := 140) (by decide +kernel), List.mem_of_getElem? (i := 442) (by decide +kernel), List.mem_of_getElem? (i := 443) (by decide +kernel)⟩
theorem lw_p6 : lw_okq (⟨"RainRecorder$Marks", "beginsStorm", "(II)Z"⟩, 4) := ⟨⟨by decide +kernel, by decide +kernel⟩, List.mem_of_getElem? (i := 140) (by decide +kernel), List.mem_of_getElem? (i := 508) (by decide +kernel), List.mem_of_getElem? (i := 509) (by decide +kernel)⟩
theorem lw_p7 : lw_okq (⟨"RainRecorder", "amountOf", "(II)I"⟩, 6) := ⟨⟨by decide +kernel, by decide +kernel⟩, List.mem_of_getElem? (i := 17) (by decide +kernel), List.mem_of_getElem? (i := 548) (by decide +kernel), List.mem_of_getElem? (i := 549) (by decide +kernel)⟩
theorem lw_p8 : lw_okq (⟨"RainRecorder", "lossOf", "(II)I"⟩, 6) := ⟨⟨by decide +kernel, by decide +kernel⟩, List.mem_of_getElem? (i := 17) (by decide +kernel), List.mem_of_getElem? (i := 552) (by decide +kernel), List.mem_of_getElem? (i := 553) (by decide +kernel)⟩
theorem lw_p9 : lw_okq (⟨"RainRecorder$Reading", "readShower", "(LRainRecorder$Text;II)V"⟩, 7) := ⟨⟨by decide +kernel, by decide +kernel⟩, List.mem_of_getElem? (i := 264) (by decide +kernel), List.mem_of_getElem? (i := 636) (by decide +kernel), List.mem_of_getElem? (i := 637) (by decide +kernel)⟩
theorem lw_p10 : lw_okq (⟨"RainRecorder$Reading", "readNumber", "(LRainRecorder$Text;C)I"⟩, 7) := ⟨⟨by decide +kernel, by decide +kernel⟩, List.mem_of_getElem? (i := 264) (by decide +kernel), List.mem_of_getElem? (i := 640) (by decide +kernel), List.mem_of_getElem? (i := 641) (by decide +kernel)⟩
theorem lw_p11 : lw_okq (⟨"RainRecorderModel", "records", "()V"⟩, 12) := ⟨⟨by decide +kernel, by decide +kernel⟩, List.mem_of_getElem? (i := 658) (by decide +kernel), List.mem_of_getElem? (i := 708) (by decide +kernel), List.mem_of_getElem? (i := 709) (by decide +kernel)⟩
theorem lw_p12 : lw_okq (⟨"RainRecorderModel", "puts", "(III)I"⟩, 12) := ⟨⟨by decide +kernel, by decide +kernel⟩, List.mem_of_getElem? (i := 658) (by decide +kernel), List.mem_of_getElem? (i := 712) (by decide +kernel), List.mem_of_getElem? (i := 713) (by decide +kernel)⟩
theorem lw_p13 : lw_okq (⟨"RainRecorderModel", "isShower", "(I)Z"⟩, 12) := ⟨⟨by decide +kernel, by decide +kernel⟩, List.mem_of_getElem? (i := 658) (by decide +kernel), List.mem_of_getElem? (i := 720) (by decide +kernel), List.mem_of_getElem? (i := 721) (by decide +kernel)⟩
theorem lw_p14 : lw_okq (⟨"RainRecorderModel", "dropsShower", "(I)V"⟩, 12) := ⟨⟨by decide +kernel, by decide +kernel⟩, List.mem_of_getElem? (i := 658) (by decide +kernel), List.mem_of_getElem? (i := 724) (by decide +kernel), List.mem_of_getElem? (i := 725) (by decide +kernel)⟩
theorem lw_p15 : lw_okq (⟨"RainRecorderModel", "goes", "(I)I"⟩, 12) := ⟨⟨by decide +kernel, by decide +kernel⟩, List.mem_of_getElem? (i := 658) (by decide +kernel), List.mem_of_getElem? (i := 736) (by decide +kernel), List.mem_of_getElem? (i := 737) (by decide +kernel)⟩
def lw_privs_1 : List (MethodName × Nat) := [(⟨"RainRecorder$History", "dropOldest", "()V"⟩, 2), (⟨"RainRecorder$Showers", "move", "(II)V"⟩, 4), (⟨"RainRecorder", "errorOfTicks", "(I)I"⟩, 6), (⟨"RainRecorder$State", "passTick", "()Z"⟩, 9), (⟨"RainRecorder$Bucket", "tip", "(II)I"⟩, 6), (⟨"RainRecorder$Marks", "removeOldest", "()V"⟩, 4), (⟨"RainRecorder$Marks", "beginsStorm", "(II)Z"⟩, 4), (⟨"RainRecorder", "amountOf", "(II)I"⟩, 6), (⟨"RainRecorder", "lossOf", "(II)I"⟩, 6), (⟨"RainRecorder$Reading", "readShower", "(LRainRecorder$Text;II)V"⟩, 7), (⟨"RainRecorder$Reading", "readNumber", "(LRainRecorder$Text;C)I"⟩, 7), (⟨"RainRecorderModel", "records", "()V"⟩, 12), (⟨"RainRecorderModel", "puts", "(III)I"⟩, 12), (⟨"RainRecorderModel", "isShower", "(I)Z"⟩, 12), (⟨"RainRecorderModel", "dropsShower", "(I)V"⟩, 12), (⟨"RainRecorderModel", "goes", "(I)I"⟩, 12)]
theorem lw_r1 : ∀ q ∈ lw_privs_1, lw_okq q := List.forall_mem_cons.mpr ⟨lw_p0, List.forall_mem_cons.mpr ⟨lw_p1, List.forall_mem_cons.mpr ⟨lw_p2, List.forall_mem_cons.mpr ⟨lw_p3, List.forall_mem_cons.mpr ⟨lw_p4, List.forall_mem_cons.mpr ⟨lw_p5, List.forall_mem_cons.mpr ⟨lw_p6, List.forall_mem_cons.mpr ⟨lw_p7, List.forall_mem_cons.mpr ⟨lw_p8, List.forall_mem_cons.mpr ⟨lw_p9, List.forall_mem_cons.mpr ⟨lw_p10, List.forall_mem_cons.mpr ⟨lw_p11, List.forall_mem_cons.mpr ⟨lw_p12, List.forall_mem_cons.mpr ⟨lw_p13, List.forall_mem_cons.mpr ⟨lw_p14, List.forall_mem_cons.mpr ⟨lw_p15, fun _ h => absurd h List.not_mem_nil⟩⟩⟩⟩⟩⟩⟩⟩⟩⟩⟩⟩⟩⟩⟩⟩
theorem lw_p16 : lw_okq (⟨"RainRecorderModel", "ticks", "()Z"⟩, 12) := ⟨⟨by decide +kernel, by decide +kernel⟩, List.mem_of_getElem? (i := 658) (by decide +kernel), List.mem_of_getElem? (i := 740) (by decide +kernel), List.mem_of_getElem? (i := 741) (by decide +kernel)⟩
theorem lw_p17 : lw_okq (⟨"RainRecorderModel", "rain", "()I"⟩, 12) := ⟨⟨by decide +kernel, by decide +kernel⟩, List.mem_of_getElem? (i := 658) (by decide +kernel), List.mem_of_getElem? (i := 744) (by decide +kernel), List.mem_of_getElem? (i := 745) (by decide +kernel)⟩
theorem lw_p18 : lw_okq (⟨"RainRecorderModel", "dries", "(II)V"⟩, 12) := ⟨⟨by decide +kernel, by decide +kernel⟩, List.mem_of_getElem? (i := 658) (by decide +kernel), List.mem_of_getElem? (i := 751) (by decide +kernel), List.mem_of_getElem? (i := 752) (by decide +kernel)⟩
theorem lw_p19 : lw_okq (⟨"RainRecorderModel", "marks", "(I)V"⟩, 12) := ⟨⟨by decide +kernel, by decide +kernel⟩, List.mem_of_getElem? (i := 658) (by decide +kernel), List.mem_of_getElem? (i := 755) (by decide +kernel), List.mem_of_getElem? (i := 756) (by decide +kernel)⟩
theorem lw_p20 : lw_okq (⟨"RainRecorderModel", "place", "()I"⟩, 12) := ⟨⟨by decide +kernel, by decide +kernel⟩, List.mem_of_getElem? (i := 658) (by decide +kernel), List.mem_of_getElem? (i := 759) (by decide +kernel), List.mem_of_getElem? (i := 760) (by decide +kernel)⟩
theorem lw_p21 : lw_okq (⟨"RainRecorderModel", "isPair", "(I)Z"⟩, 12) := ⟨⟨by decide +kernel, by decide +kernel⟩, List.mem_of_getElem? (i := 658) (by decide +kernel), List.mem_of_getElem? (i := 786) (by decide +kernel), List.mem_of_getElem? (i := 787) (by decide +kernel)⟩
theorem lw_p22 : lw_okq (⟨"RainRecorderModel", "parts", "()V"⟩, 12) := ⟨⟨by decide +kernel, by decide +kernel⟩, List.mem_of_getElem? (i := 658) (by decide +kernel), List.mem_of_getElem? (i := 798) (by decide +kernel), List.mem_of_getElem? (i := 799) (by decide +kernel)⟩
theorem lw_p23 : lw_okq (⟨"RainRecorderModel", "apart", "(I)I"⟩, 12) := ⟨⟨by decide +kernel, by decide +kernel⟩, List.mem_of_getElem? (i := 658) (by decide +kernel), List.mem_of_getElem? (i := 802) (by decide +kernel), List.mem_of_getElem? (i := 803) (by decide +kernel)⟩
theorem lw_p24 : lw_okq (⟨"RainRecorderModel", "amountOf", "(I)I"⟩, 12) := ⟨⟨by decide +kernel, by decide +kernel⟩, List.mem_of_getElem? (i := 658) (by decide +kernel), List.mem_of_getElem? (i := 818) (by decide +kernel), List.mem_of_getElem? (i := 819) (by decide +kernel)⟩
theorem lw_p25 : lw_okq (⟨"RainRecorderModel", "lossOf", "(I)I"⟩, 12) := ⟨⟨by decide +kernel, by decide +kernel⟩, List.mem_of_getElem? (i := 658) (by decide +kernel), List.mem_of_getElem? (i := 822) (by decide +kernel), List.mem_of_getElem? (i := 823) (by decide +kernel)⟩
theorem lw_p26 : lw_okq (⟨"RainRecorderModel", "peakOf", "(I)I"⟩, 12) := ⟨⟨by decide +kernel, by decide +kernel⟩, List.mem_of_getElem? (i := 658) (by decide +kernel), List.mem_of_getElem? (i := 826) (by decide +kernel), List.mem_of_getElem? (i := 827) (by decide +kernel)⟩
theorem lw_p27 : lw_okq (⟨"RainRecorderModel", "keeps", "()V"⟩, 12) := ⟨⟨by decide +kernel, by decide +kernel⟩, List.mem_of_getElem? (i := 658) (by decide +kernel), List.mem_of_getElem? (i := 842) (by decide +kernel), List.mem_of_getElem? (i := 843) (by decide +kernel)⟩
theorem lw_p28 : lw_okq (⟨"RainRecorderModel", "restores", "()V"⟩, 12) := ⟨⟨by decide +kernel, by decide +kernel⟩, List.mem_of_getElem? (i := 658) (by decide +kernel), List.mem_of_getElem? (i := 846) (by decide +kernel), List.mem_of_getElem? (i := 847) (by decide +kernel)⟩
theorem lw_p29 : lw_okq (⟨"RainRecorderModel", "faulty", "()I"⟩, 12) := ⟨⟨by decide +kernel, by decide +kernel⟩, List.mem_of_getElem? (i := 658) (by decide +kernel), List.mem_of_getElem? (i := 875) (by decide +kernel), List.mem_of_getElem? (i := 876) (by decide +kernel)⟩
theorem lw_p30 : lw_okq (⟨"RainRecorderModel", "readsShower", "()Z"⟩, 12) := ⟨⟨by decide +kernel, by decide +kernel⟩, List.mem_of_getElem? (i := 658) (by decide +kernel), List.mem_of_getElem? (i := 879) (by decide +kernel), List.mem_of_getElem? (i := 880) (by decide +kernel)⟩
theorem lw_p31 : lw_okq (⟨"RainRecorderModel", "takes", "(IC)Z"⟩, 12) := ⟨⟨by decide +kernel, by decide +kernel⟩, List.mem_of_getElem? (i := 658) (by decide +kernel), List.mem_of_getElem? (i := 883) (by decide +kernel), List.mem_of_getElem? (i := 884) (by decide +kernel)⟩
def lw_privs_2 : List (MethodName × Nat) := [(⟨"RainRecorderModel", "ticks", "()Z"⟩, 12), (⟨"RainRecorderModel", "rain", "()I"⟩, 12), (⟨"RainRecorderModel", "dries", "(II)V"⟩, 12), (⟨"RainRecorderModel", "marks", "(I)V"⟩, 12), (⟨"RainRecorderModel", "place", "()I"⟩, 12), (⟨"RainRecorderModel", "isPair", "(I)Z"⟩, 12), (⟨"RainRecorderModel", "parts", "()V"⟩, 12), (⟨"RainRecorderModel", "apart", "(I)I"⟩, 12), (⟨"RainRecorderModel", "amountOf", "(I)I"⟩, 12), (⟨"RainRecorderModel", "lossOf", "(I)I"⟩, 12), (⟨"RainRecorderModel", "peakOf", "(I)I"⟩, 12), (⟨"RainRecorderModel", "keeps", "()V"⟩, 12), (⟨"RainRecorderModel", "restores", "()V"⟩, 12), (⟨"RainRecorderModel", "faulty", "()I"⟩, 12), (⟨"RainRecorderModel", "readsShower", "()Z"⟩, 12), (⟨"RainRecorderModel", "takes", "(IC)Z"⟩, 12)]
theorem lw_r2 : ∀ q ∈ lw_privs_2, lw_okq q := List.forall_mem_cons.mpr ⟨lw_p16, List.forall_mem_cons.mpr ⟨lw_p17, List.forall_mem_cons.mpr ⟨lw_p18, List.forall_mem_cons.mpr ⟨lw_p19, List.forall_mem_cons.mpr ⟨lw_p20, List.forall_mem_cons.mpr ⟨lw_p21, List.forall_mem_cons.mpr ⟨lw_p22, List.forall_mem_cons.mpr ⟨lw_p23, List.forall_mem_cons.mpr ⟨lw_p24, List.forall_mem_cons.mpr ⟨lw_p25, List.forall_mem_cons.mpr ⟨lw_p26, List.forall_mem_cons.mpr ⟨lw_p27, List.forall_mem_cons.mpr ⟨lw_p28, List.forall_mem_cons.mpr ⟨lw_p29, List.forall_mem_cons.mpr ⟨lw_p30, List.forall_mem_cons.mpr ⟨lw_p31, fun _ h => absurd h List.not_mem_nil⟩⟩⟩⟩⟩⟩⟩⟩⟩⟩⟩⟩⟩⟩⟩⟩
def lw_privs : List (MethodName × Nat) := lw_privs_1 ++ (lw_privs_2)
def lw_tbl : List Cond := k2_sels lw_privs ++ tables_1
theorem lw_privs_ok : ∀ q ∈ lw_privs, lw_okq q := by
  show ∀ q ∈ lw_privs_1 ++ (lw_privs_2), lw_okq q
  exact List.forall_mem_append.mpr ⟨lw_r1, lw_r2⟩
end
section
def RX0 : String := "RainRecorder$Bucket"
def TX0 : u_T := fun k => match k with
  | 0 => ("RainRecorder$Bucket", "content", "I", false)
  | 1 => ("RainRecorder$Bucket", "tipLeft", "I", false)
  | 2 => ("RainRecorder$Bucket", "tipped", "I", false)
  | 3 => ("RainRecorder$Bucket", "over", "I", false)
  | 4 => ("RainRecorder$Bucket", "lost", "I", false)
  | _ => ("RainRecorder$Bucket", "dried", "I", false)
def tyX0 : Nat → FieldType := fun k => match k with
  | 0 => .int
  | 1 => .int
  | 2 => .int
  | 3 => .int
  | 4 => .int
  | _ => .int
abbrev wsX00 : List Cond := u_ws RX0 TX0 6
theorem nmX0 : ∀ a, a < 6 → ∀ b, b < 6 → a ≠ b → (TX0 a).2.1 ≠ (TX0 b).2.1 := by decide +kernel
theorem tyX0_ok : ∀ k, k < 6 → parseFieldDescriptor (TX0 k).2.2.1 = some (tyX0 k) := by decide +kernel
abbrev cX0_init : ByteArray := prog_2_method_1_code
def yX0_init : MethodName := ⟨RX0, "<init>", "()V"⟩
abbrev cX0_copyFrom : ByteArray := prog_2_method_2_code
def yX0_copyFrom : MethodName := ⟨RX0, "copyFrom", "(LRainRecorder$Bucket;)V"⟩
abbrev cX0_passTick : ByteArray := prog_2_method_3_code
def yX0_passTick : MethodName := ⟨RX0, "passTick", "(IZIII)I"⟩
abbrev cX0_tip : ByteArray := prog_2_method_4_code
def yX0_tip : MethodName := ⟨RX0, "tip", "(II)I"⟩
def RX1 : String := "RainRecorder$Clock"
def TX1 : u_T := fun k => match k with
  | 0 => ("RainRecorder$Clock", "reserve", "I", false)
  | _ => ("RainRecorder$Clock", "counted", "I", false)
def tyX1 : Nat → FieldType := fun k => match k with
  | 0 => .int
  | _ => .int
abbrev wsX10 : List Cond := u_ws RX1 TX1 2
theorem nmX1 : ∀ a, a < 2 → ∀ b, b < 2 → a ≠ b → (TX1 a).2.1 ≠ (TX1 b).2.1 := by decide +kernel
theorem tyX1_ok : ∀ k, k < 2 → parseFieldDescriptor (TX1 k).2.2.1 = some (tyX1 k) := by decide +kernel
abbrev cX1_init : ByteArray := prog_3_method_1_code
def yX1_init : MethodName := ⟨RX1, "<init>", "()V"⟩
abbrev cX1_copyFrom : ByteArray := prog_3_method_2_code
def yX1_copyFrom : MethodName := ⟨RX1, "copyFrom", "(LRainRecorder$Clock;)V"⟩
abbrev cX1_passTick : ByteArray := prog_3_method_3_code
def yX1_passTick : MethodName := ⟨RX1, "passTick", "()V"⟩
def RX2 : String := "RainRecorder$Film"
def TX2 : u_T := fun k => match k with
  | 0 => ("RainRecorder$Film", "content", "I", false)
  | _ => ("RainRecorder$Film", "dried", "I", false)
def tyX2 : Nat → FieldType := fun k => match k with
  | 0 => .int
  | _ => .int
abbrev wsX20 : List Cond := u_ws RX2 TX2 2
theorem nmX2 : ∀ a, a < 2 → ∀ b, b < 2 → a ≠ b → (TX2 a).2.1 ≠ (TX2 b).2.1 := by decide +kernel
theorem tyX2_ok : ∀ k, k < 2 → parseFieldDescriptor (TX2 k).2.2.1 = some (tyX2 k) := by decide +kernel
abbrev cX2_init : ByteArray := prog_4_method_1_code
def yX2_init : MethodName := ⟨RX2, "<init>", "()V"⟩
abbrev cX2_copyFrom : ByteArray := prog_4_method_2_code
def yX2_copyFrom : MethodName := ⟨RX2, "copyFrom", "(LRainRecorder$Film;)V"⟩
abbrev cX2_passTick : ByteArray := prog_4_method_3_code
def yX2_passTick : MethodName := ⟨RX2, "passTick", "(III)I"⟩
def RX3 : String := "RainRecorder$Gears"
def TX3 : u_T := fun k => match k with
  | 0 => ("RainRecorder$Gears", "firsts", "[I", true)
  | 1 => ("RainRecorder$Gears", "seconds", "[I", true)
  | _ => ("RainRecorder$Gears", "size", "I", false)
def tyX3 : Nat → FieldType := fun k => match k with
  | 0 => .array .int
  | 1 => .array .int
  | _ => .int
abbrev wsX30 : List Cond := u_ws RX3 TX3 3
theorem nmX3 : ∀ a, a < 3 → ∀ b, b < 3 → a ≠ b → (TX3 a).2.1 ≠ (TX3 b).2.1 := by decide +kernel
theorem tyX3_ok : ∀ k, k < 3 → parseFieldDescriptor (TX3 k).2.2.1 = some (tyX3 k) := by decide +kernel
abbrev cX3_init : ByteArray := prog_5_method_1_code
def yX3_init : MethodName := ⟨RX3, "<init>", "()V"⟩
abbrev cX3_copyFrom : ByteArray := prog_5_method_2_code
def yX3_copyFrom : MethodName := ⟨RX3, "copyFrom", "(LRainRecorder$Gears;)V"⟩
abbrev cX3_has : ByteArray := prog_5_method_3_code
def yX3_has : MethodName := ⟨RX3, "has", "(I)Z"⟩
abbrev cX3_append : ByteArray := prog_5_method_4_code
def yX3_append : MethodName := ⟨RX3, "append", "(II)V"⟩
abbrev cX3_removeAt : ByteArray := prog_5_method_5_code
def yX3_removeAt : MethodName := ⟨RX3, "removeAt", "(I)V"⟩
abbrev cX3_placeOf : ByteArray := prog_5_method_6_code
def yX3_placeOf : MethodName := ⟨RX3, "placeOf", "(II)I"⟩
def RX4 : String := "RainRecorder$History"
def TX4 : u_T := fun k => match k with
  | 0 => ("RainRecorder$History", "states", "[LRainRecorder$State;", true)
  | _ => ("RainRecorder$History", "size", "I", false)
def tyX4 : Nat → FieldType := fun k => match k with
  | 0 => .array (.object "RainRecorder$State")
  | _ => .int
abbrev wsX40 : List Cond := u_ws RX4 TX4 2
theorem nmX4 : ∀ a, a < 2 → ∀ b, b < 2 → a ≠ b → (TX4 a).2.1 ≠ (TX4 b).2.1 := by decide +kernel
theorem tyX4_ok : ∀ k, k < 2 → parseFieldDescriptor (TX4 k).2.2.1 = some (tyX4 k) := by decide +kernel
abbrev cX4_init : ByteArray := prog_6_method_1_code
def yX4_init : MethodName := ⟨RX4, "<init>", "()V"⟩
abbrev cX4_keep : ByteArray := prog_6_method_2_code
def yX4_keep : MethodName := ⟨RX4, "keep", "(LRainRecorder$State;)V"⟩
abbrev cX4_dropOldest : ByteArray := prog_6_method_3_code
def yX4_dropOldest : MethodName := ⟨RX4, "dropOldest", "()V"⟩
abbrev cX4_restoreInto : ByteArray := prog_6_method_4_code
def yX4_restoreInto : MethodName := ⟨RX4, "restoreInto", "(LRainRecorder$State;)V"⟩
def RX5 : String := "RainRecorder$Marks"
def TX5 : u_T := fun k => match k with
  | 0 => ("RainRecorder$Marks", "ticks", "[I", true)
  | 1 => ("RainRecorder$Marks", "places", "[I", true)
  | 2 => ("RainRecorder$Marks", "overs", "[I", true)
  | _ => ("RainRecorder$Marks", "size", "I", false)
def tyX5 : Nat → FieldType := fun k => match k with
  | 0 => .array .int
  | 1 => .array .int
  | 2 => .array .int
  | _ => .int
abbrev wsX50 : List Cond := u_ws RX5 TX5 4
theorem nmX5 : ∀ a, a < 4 → ∀ b, b < 4 → a ≠ b → (TX5 a).2.1 ≠ (TX5 b).2.1 := by decide +kernel
theorem tyX5_ok : ∀ k, k < 4 → parseFieldDescriptor (TX5 k).2.2.1 = some (tyX5 k) := by decide +kernel
abbrev cX5_init : ByteArray := prog_7_method_1_code
def yX5_init : MethodName := ⟨RX5, "<init>", "()V"⟩
abbrev cX5_copyFrom : ByteArray := prog_7_method_2_code
def yX5_copyFrom : MethodName := ⟨RX5, "copyFrom", "(LRainRecorder$Marks;)V"⟩
abbrev cX5_has : ByteArray := prog_7_method_3_code
def yX5_has : MethodName := ⟨RX5, "has", "(I)Z"⟩
abbrev cX5_append : ByteArray := prog_7_method_4_code
def yX5_append : MethodName := ⟨RX5, "append", "(III)V"⟩
abbrev cX5_removeOldest : ByteArray := prog_7_method_5_code
def yX5_removeOldest : MethodName := ⟨RX5, "removeOldest", "()V"⟩
abbrev cX5_ticksBetween : ByteArray := prog_7_method_6_code
def yX5_ticksBetween : MethodName := ⟨RX5, "ticksBetween", "(II)I"⟩
abbrev cX5_widestGap : ByteArray := prog_7_method_7_code
def yX5_widestGap : MethodName := ⟨RX5, "widestGap", "()I"⟩
abbrev cX5_beginsStorm : ByteArray := prog_7_method_8_code
def yX5_beginsStorm : MethodName := ⟨RX5, "beginsStorm", "(II)Z"⟩
abbrev cX5_countStorms : ByteArray := prog_7_method_9_code
def yX5_countStorms : MethodName := ⟨RX5, "countStorms", "(I)I"⟩
abbrev cX5_firstOfStorm : ByteArray := prog_7_method_10_code
def yX5_firstOfStorm : MethodName := ⟨RX5, "firstOfStorm", "(II)I"⟩
abbrev cX5_endOfStorm : ByteArray := prog_7_method_11_code
def yX5_endOfStorm : MethodName := ⟨RX5, "endOfStorm", "(II)I"⟩
abbrev cX5_lossBetweenTips : ByteArray := prog_7_method_12_code
def yX5_lossBetweenTips : MethodName := ⟨RX5, "lossBetweenTips", "(III)I"⟩
abbrev cX5_peak : ByteArray := prog_7_method_13_code
def yX5_peak : MethodName := ⟨RX5, "peak", "(II)I"⟩
def RX6 : String := "RainRecorder$Outlook"
def TX6 : u_T := fun k => match k with
  | 0 => ("RainRecorder$Outlook", "left", "[I", true)
  | 1 => ("RainRecorder$Outlook", "dry", "[Z", true)
  | _ => ("RainRecorder$Outlook", "size", "I", false)
def tyX6 : Nat → FieldType := fun k => match k with
  | 0 => .array .int
  | 1 => .array .boolean
  | _ => .int
abbrev wsX60 : List Cond := u_ws RX6 TX6 3
theorem nmX6 : ∀ a, a < 3 → ∀ b, b < 3 → a ≠ b → (TX6 a).2.1 ≠ (TX6 b).2.1 := by decide +kernel
theorem tyX6_ok : ∀ k, k < 3 → parseFieldDescriptor (TX6 k).2.2.1 = some (tyX6 k) := by decide +kernel
abbrev cX6_init : ByteArray := prog_8_method_1_code
def yX6_init : MethodName := ⟨RX6, "<init>", "()V"⟩
abbrev cX6_lookAhead : ByteArray := prog_8_method_2_code
def yX6_lookAhead : MethodName := ⟨RX6, "lookAhead", "(LRainRecorder$State;I)V"⟩
abbrev cX6_losesAtMost : ByteArray := prog_8_method_3_code
def yX6_losesAtMost : MethodName := ⟨RX6, "losesAtMost", "(IILRainRecorder$State;)Z"⟩
def RX7 : String := "RainRecorder$Reading"
def TX7 : u_T := fun k => match k with
  | 0 => ("RainRecorder$Reading", "begins", "[I", true)
  | 1 => ("RainRecorder$Reading", "lengths", "[I", true)
  | 2 => ("RainRecorder$Reading", "rates", "[I", true)
  | 3 => ("RainRecorder$Reading", "size", "I", false)
  | 4 => ("RainRecorder$Reading", "position", "I", false)
  | 5 => ("RainRecorder$Reading", "reason", "I", false)
  | _ => ("RainRecorder$Reading", "next", "I", false)
def tyX7 : Nat → FieldType := fun k => match k with
  | 0 => .array .int
  | 1 => .array .int
  | 2 => .array .int
  | 3 => .int
  | 4 => .int
  | 5 => .int
  | _ => .int
abbrev wsX70 : List Cond := u_ws RX7 TX7 7
theorem nmX7 : ∀ a, a < 7 → ∀ b, b < 7 → a ≠ b → (TX7 a).2.1 ≠ (TX7 b).2.1 := by decide +kernel
theorem tyX7_ok : ∀ k, k < 7 → parseFieldDescriptor (TX7 k).2.2.1 = some (tyX7 k) := by decide +kernel
abbrev cX7_init : ByteArray := prog_9_method_1_code
def yX7_init : MethodName := ⟨RX7, "<init>", "()V"⟩
abbrev cX7_read : ByteArray := prog_9_method_2_code
def yX7_read : MethodName := ⟨RX7, "read", "(LRainRecorder$Text;II)V"⟩
abbrev cX7_readShower : ByteArray := prog_9_method_3_code
def yX7_readShower : MethodName := ⟨RX7, "readShower", "(LRainRecorder$Text;II)V"⟩
abbrev cX7_readNumber : ByteArray := prog_9_method_4_code
def yX7_readNumber : MethodName := ⟨RX7, "readNumber", "(LRainRecorder$Text;C)I"⟩
def RX8 : String := "RainRecorder$Showers"
def TX8 : u_T := fun k => match k with
  | 0 => ("RainRecorder$Showers", "begins", "[I", true)
  | 1 => ("RainRecorder$Showers", "lengths", "[I", true)
  | 2 => ("RainRecorder$Showers", "rates", "[I", true)
  | _ => ("RainRecorder$Showers", "size", "I", false)
def tyX8 : Nat → FieldType := fun k => match k with
  | 0 => .array .int
  | 1 => .array .int
  | 2 => .array .int
  | _ => .int
abbrev wsX80 : List Cond := u_ws RX8 TX8 4
theorem nmX8 : ∀ a, a < 4 → ∀ b, b < 4 → a ≠ b → (TX8 a).2.1 ≠ (TX8 b).2.1 := by decide +kernel
theorem tyX8_ok : ∀ k, k < 4 → parseFieldDescriptor (TX8 k).2.2.1 = some (tyX8 k) := by decide +kernel
abbrev cX8_init : ByteArray := prog_10_method_1_code
def yX8_init : MethodName := ⟨RX8, "<init>", "()V"⟩
abbrev cX8_copyFrom : ByteArray := prog_10_method_2_code
def yX8_copyFrom : MethodName := ⟨RX8, "copyFrom", "(LRainRecorder$Showers;)V"⟩
abbrev cX8_has : ByteArray := prog_10_method_3_code
def yX8_has : MethodName := ⟨RX8, "has", "(I)Z"⟩
abbrev cX8_insert : ByteArray := prog_10_method_4_code
def yX8_insert : MethodName := ⟨RX8, "insert", "(III)I"⟩
abbrev cX8_removeAt : ByteArray := prog_10_method_5_code
def yX8_removeAt : MethodName := ⟨RX8, "removeAt", "(I)V"⟩
abbrev cX8_removeEnded : ByteArray := prog_10_method_6_code
def yX8_removeEnded : MethodName := ⟨RX8, "removeEnded", "(I)V"⟩
abbrev cX8_move : ByteArray := prog_10_method_7_code
def yX8_move : MethodName := ⟨RX8, "move", "(II)V"⟩
abbrev cX8_rainIn : ByteArray := prog_10_method_8_code
def yX8_rainIn : MethodName := ⟨RX8, "rainIn", "(I)I"⟩
abbrev cX8_ticksToCome : ByteArray := prog_10_method_9_code
def yX8_ticksToCome : MethodName := ⟨RX8, "ticksToCome", "(II)I"⟩
def RX9 : String := "RainRecorder$State"
def TX9 : u_T := fun k => match k with
  | 0 => ("RainRecorder$State", "settings", "[I", true)
  | 1 => ("RainRecorder$State", "showers", "LRainRecorder$Showers;", true)
  | 2 => ("RainRecorder$State", "film", "LRainRecorder$Film;", true)
  | 3 => ("RainRecorder$State", "bucket", "LRainRecorder$Bucket;", true)
  | 4 => ("RainRecorder$State", "clock", "LRainRecorder$Clock;", true)
  | 5 => ("RainRecorder$State", "gears", "LRainRecorder$Gears;", true)
  | 6 => ("RainRecorder$State", "marks", "LRainRecorder$Marks;", true)
  | 7 => ("RainRecorder$State", "tick", "I", false)
  | _ => ("RainRecorder$State", "fell", "I", false)
def tyX9 : Nat → FieldType := fun k => match k with
  | 0 => .array .int
  | 1 => .object "RainRecorder$Showers"
  | 2 => .object "RainRecorder$Film"
  | 3 => .object "RainRecorder$Bucket"
  | 4 => .object "RainRecorder$Clock"
  | 5 => .object "RainRecorder$Gears"
  | 6 => .object "RainRecorder$Marks"
  | 7 => .int
  | _ => .int
abbrev wsX90 : List Cond := u_ws RX9 TX9 9
theorem nmX9 : ∀ a, a < 9 → ∀ b, b < 9 → a ≠ b → (TX9 a).2.1 ≠ (TX9 b).2.1 := by decide +kernel
theorem tyX9_ok : ∀ k, k < 9 → parseFieldDescriptor (TX9 k).2.2.1 = some (tyX9 k) := by decide +kernel
abbrev cX9_init : ByteArray := prog_11_method_1_code
def yX9_init : MethodName := ⟨RX9, "<init>", "()V"⟩
abbrev cX9_copyFrom : ByteArray := prog_11_method_2_code
def yX9_copyFrom : MethodName := ⟨RX9, "copyFrom", "(LRainRecorder$State;)V"⟩
abbrev cX9_passTicks : ByteArray := prog_11_method_3_code
def yX9_passTicks : MethodName := ⟨RX9, "passTicks", "(I)I"⟩
abbrev cX9_passTick : ByteArray := prog_11_method_4_code
def yX9_passTick : MethodName := ⟨RX9, "passTick", "()Z"⟩
abbrev cX9_drumPlace : ByteArray := prog_11_method_5_code
def yX9_drumPlace : MethodName := ⟨RX9, "drumPlace", "()I"⟩
abbrev cX9_accountOf : ByteArray := prog_11_method_6_code
def yX9_accountOf : MethodName := ⟨RX9, "accountOf", "(I)I"⟩
def RX10 : String := "RainRecorder$Text"
def TX10 : u_T := fun k => match k with
  | 0 => ("RainRecorder$Text", "characters", "[C", true)
  | _ => ("RainRecorder$Text", "length", "I", false)
def tyX10 : Nat → FieldType := fun k => match k with
  | 0 => .array .char
  | _ => .int
abbrev wsX100 : List Cond := u_ws RX10 TX10 2
theorem nmX10 : ∀ a, a < 2 → ∀ b, b < 2 → a ≠ b → (TX10 a).2.1 ≠ (TX10 b).2.1 := by decide +kernel
theorem tyX10_ok : ∀ k, k < 2 → parseFieldDescriptor (TX10 k).2.2.1 = some (tyX10 k) := by decide +kernel
abbrev cX10_init : ByteArray := prog_12_method_1_code
def yX10_init : MethodName := ⟨RX10, "<init>", "()V"⟩
abbrev cX10_append : ByteArray := prog_12_method_2_code
def yX10_append : MethodName := ⟨RX10, "append", "(C)V"⟩
abbrev cX10_characterAt : ByteArray := prog_12_method_3_code
def yX10_characterAt : MethodName := ⟨RX10, "characterAt", "(I)C"⟩
abbrev cX10_hasDigitAt : ByteArray := prog_12_method_4_code
def yX10_hasDigitAt : MethodName := ⟨RX10, "hasDigitAt", "(I)Z"⟩
def RX11 : String := "RainRecorder"
def TX11 : u_T := fun k => match k with
  | 0 => ("RainRecorder", "now", "LRainRecorder$State;", true)
  | 1 => ("RainRecorder", "trial", "LRainRecorder$State;", true)
  | 2 => ("RainRecorder", "history", "LRainRecorder$History;", true)
  | 3 => ("RainRecorder", "outlook", "LRainRecorder$Outlook;", true)
  | 4 => ("RainRecorder", "text", "LRainRecorder$Text;", true)
  | _ => ("RainRecorder", "reading", "LRainRecorder$Reading;", true)
def tyX11 : Nat → FieldType := fun k => match k with
  | 0 => .object "RainRecorder$State"
  | 1 => .object "RainRecorder$State"
  | 2 => .object "RainRecorder$History"
  | 3 => .object "RainRecorder$Outlook"
  | 4 => .object "RainRecorder$Text"
  | _ => .object "RainRecorder$Reading"
abbrev wsX110 : List Cond := u_ws RX11 TX11 6
theorem nmX11 : ∀ a, a < 6 → ∀ b, b < 6 → a ≠ b → (TX11 a).2.1 ≠ (TX11 b).2.1 := by decide +kernel
theorem tyX11_ok : ∀ k, k < 6 → parseFieldDescriptor (TX11 k).2.2.1 = some (tyX11 k) := by decide +kernel
abbrev cX11_init : ByteArray := prog_1_method_1_code
def yX11_init : MethodName := ⟨RX11, "<init>", "()V"⟩
abbrev cX11_addShower : ByteArray := prog_1_method_2_code
def yX11_addShower : MethodName := ⟨RX11, "addShower", "(III)I"⟩
abbrev cX11_cancel : ByteArray := prog_1_method_3_code
def yX11_cancel : MethodName := ⟨RX11, "cancel", "(I)I"⟩
abbrev cX11_shower : ByteArray := prog_1_method_4_code
def yX11_shower : MethodName := ⟨RX11, "shower", "(II)I"⟩
abbrev cX11_run : ByteArray := prog_1_method_5_code
def yX11_run : MethodName := ⟨RX11, "run", "(I)I"⟩
abbrev cX11_undo : ByteArray := prog_1_method_6_code
def yX11_undo : MethodName := ⟨RX11, "undo", "()I"⟩
abbrev cX11_set : ByteArray := prog_1_method_7_code
def yX11_set : MethodName := ⟨RX11, "set", "(II)I"⟩
abbrev cX11_wind : ByteArray := prog_1_method_8_code
def yX11_wind : MethodName := ⟨RX11, "wind", "()I"⟩
abbrev cX11_addGears : ByteArray := prog_1_method_9_code
def yX11_addGears : MethodName := ⟨RX11, "addGears", "(II)I"⟩
abbrev cX11_removeGears : ByteArray := prog_1_method_10_code
def yX11_removeGears : MethodName := ⟨RX11, "removeGears", "(I)I"⟩
abbrev cX11_gear : ByteArray := prog_1_method_11_code
def yX11_gear : MethodName := ⟨RX11, "gear", "(II)I"⟩
abbrev cX11_count : ByteArray := prog_1_method_12_code
def yX11_count : MethodName := ⟨RX11, "count", "(I)I"⟩
abbrev cX11_account : ByteArray := prog_1_method_13_code
def yX11_account : MethodName := ⟨RX11, "account", "(I)I"⟩
abbrev cX11_mark : ByteArray := prog_1_method_14_code
def yX11_mark : MethodName := ⟨RX11, "mark", "(II)I"⟩
abbrev cX11_storm : ByteArray := prog_1_method_15_code
def yX11_storm : MethodName := ⟨RX11, "storm", "(II)I"⟩
abbrev cX11_greatestStorm : ByteArray := prog_1_method_16_code
def yX11_greatestStorm : MethodName := ⟨RX11, "greatestStorm", "()I"⟩
abbrev cX11_gapForOne : ByteArray := prog_1_method_17_code
def yX11_gapForOne : MethodName := ⟨RX11, "gapForOne", "()I"⟩
abbrev cX11_ifRun : ByteArray := prog_1_method_18_code
def yX11_ifRun : MethodName := ⟨RX11, "ifRun", "(II)I"⟩
abbrev cX11_capacityFor : ByteArray := prog_1_method_19_code
def yX11_capacityFor : MethodName := ⟨RX11, "capacityFor", "(II)I"⟩
abbrev cX11_untilStop : ByteArray := prog_1_method_20_code
def yX11_untilStop : MethodName := ⟨RX11, "untilStop", "()I"⟩
abbrev cX11_gearsFor : ByteArray := prog_1_method_21_code
def yX11_gearsFor : MethodName := ⟨RX11, "gearsFor", "(I)I"⟩
abbrev cX11_type : ByteArray := prog_1_method_22_code
def yX11_type : MethodName := ⟨RX11, "type", "(I)I"⟩
abbrev cX11_clearText : ByteArray := prog_1_method_23_code
def yX11_clearText : MethodName := ⟨RX11, "clearText", "()I"⟩
abbrev cX11_fault : ByteArray := prog_1_method_24_code
def yX11_fault : MethodName := ⟨RX11, "fault", "(I)I"⟩
abbrev cX11_lay : ByteArray := prog_1_method_25_code
def yX11_lay : MethodName := ⟨RX11, "lay", "()I"⟩
abbrev cX11_errorOfTicks : ByteArray := prog_1_method_26_code
def yX11_errorOfTicks : MethodName := ⟨RX11, "errorOfTicks", "(I)I"⟩
abbrev cX11_amountOf : ByteArray := prog_1_method_27_code
def yX11_amountOf : MethodName := ⟨RX11, "amountOf", "(II)I"⟩
abbrev cX11_lossOf : ByteArray := prog_1_method_28_code
def yX11_lossOf : MethodName := ⟨RX11, "lossOf", "(II)I"⟩
abbrev cX11_isWithin : ByteArray := prog_1_method_29_code
def yX11_isWithin : MethodName := ⟨RX11, "isWithin", "(III)Z"⟩
abbrev cX11_quotient : ByteArray := prog_1_method_30_code
def yX11_quotient : MethodName := ⟨RX11, "quotient", "(II)I"⟩
abbrev cX11_copyRow : ByteArray := prog_1_method_31_code
def yX11_copyRow : MethodName := ⟨RX11, "copyRow", "([I[I)V"⟩
def RX12 : String := "RainRecorderModel"
def TX12 : u_T := fun k => match k with
  | 0 => ("RainRecorderModel", "d", "[I", true)
  | 1 => ("RainRecorderModel", "was", "[I", true)
  | 2 => ("RainRecorderModel", "states", "I", false)
  | 3 => ("RainRecorderModel", "aside", "[I", true)
  | 4 => ("RainRecorderModel", "text", "[C", true)
  | 5 => ("RainRecorderModel", "typed", "I", false)
  | 6 => ("RainRecorderModel", "at", "I", false)
  | 7 => ("RainRecorderModel", "reason", "I", false)
  | 8 => ("RainRecorderModel", "read", "[I", true)
  | 9 => ("RainRecorderModel", "reads", "I", false)
  | 10 => ("RainRecorderModel", "first", "[I", true)
  | _ => ("RainRecorderModel", "storms", "I", false)
def tyX12 : Nat → FieldType := fun k => match k with
  | 0 => .array .int
  | 1 => .array .int
  | 2 => .int
  | 3 => .array .int
  | 4 => .array .char
  | 5 => .int
  | 6 => .int
  | 7 => .int
  | 8 => .array .int
  | 9 => .int
  | 10 => .array .int
  | _ => .int
abbrev wsX120 : List Cond := u_ws RX12 TX12 12
theorem nmX12 : ∀ a, a < 12 → ∀ b, b < 12 → a ≠ b → (TX12 a).2.1 ≠ (TX12 b).2.1 := by decide +kernel
theorem tyX12_ok : ∀ k, k < 12 → parseFieldDescriptor (TX12 k).2.2.1 = some (tyX12 k) := by decide +kernel
abbrev cX12_init : ByteArray := prog_14_method_1_code
def yX12_init : MethodName := ⟨RX12, "<init>", "()V"⟩
abbrev cX12_in : ByteArray := prog_14_method_2_code
def yX12_in : MethodName := ⟨RX12, "in", "(III)Z"⟩
abbrev cX12_less : ByteArray := prog_14_method_3_code
def yX12_less : MethodName := ⟨RX12, "less", "(II)I"⟩
abbrev cX12_records : ByteArray := prog_14_method_4_code
def yX12_records : MethodName := ⟨RX12, "records", "()V"⟩
abbrev cX12_keeps : ByteArray := prog_14_method_5_code
def yX12_keeps : MethodName := ⟨RX12, "keeps", "()V"⟩
abbrev cX12_restores : ByteArray := prog_14_method_6_code
def yX12_restores : MethodName := ⟨RX12, "restores", "()V"⟩
abbrev cX12_rain : ByteArray := prog_14_method_7_code
def yX12_rain : MethodName := ⟨RX12, "rain", "()I"⟩
abbrev cX12_place : ByteArray := prog_14_method_8_code
def yX12_place : MethodName := ⟨RX12, "place", "()I"⟩
abbrev cX12_dropsShower : ByteArray := prog_14_method_9_code
def yX12_dropsShower : MethodName := ⟨RX12, "dropsShower", "(I)V"⟩
abbrev cX12_marks : ByteArray := prog_14_method_10_code
def yX12_marks : MethodName := ⟨RX12, "marks", "(I)V"⟩
abbrev cX12_dries : ByteArray := prog_14_method_11_code
def yX12_dries : MethodName := ⟨RX12, "dries", "(II)V"⟩
abbrev cX12_ticks : ByteArray := prog_14_method_12_code
def yX12_ticks : MethodName := ⟨RX12, "ticks", "()Z"⟩
abbrev cX12_goes : ByteArray := prog_14_method_13_code
def yX12_goes : MethodName := ⟨RX12, "goes", "(I)I"⟩
abbrev cX12_puts : ByteArray := prog_14_method_14_code
def yX12_puts : MethodName := ⟨RX12, "puts", "(III)I"⟩
abbrev cX12_addShower : ByteArray := prog_14_method_15_code
def yX12_addShower : MethodName := ⟨RX12, "addShower", "(III)I"⟩
abbrev cX12_isShower : ByteArray := prog_14_method_16_code
def yX12_isShower : MethodName := ⟨RX12, "isShower", "(I)Z"⟩
abbrev cX12_cancel : ByteArray := prog_14_method_17_code
def yX12_cancel : MethodName := ⟨RX12, "cancel", "(I)I"⟩
abbrev cX12_shower : ByteArray := prog_14_method_18_code
def yX12_shower : MethodName := ⟨RX12, "shower", "(II)I"⟩
abbrev cX12_run : ByteArray := prog_14_method_19_code
def yX12_run : MethodName := ⟨RX12, "run", "(I)I"⟩
abbrev cX12_undo : ByteArray := prog_14_method_20_code
def yX12_undo : MethodName := ⟨RX12, "undo", "()I"⟩
abbrev cX12_isSetting : ByteArray := prog_14_method_21_code
def yX12_isSetting : MethodName := ⟨RX12, "isSetting", "(II)Z"⟩
abbrev cX12_set : ByteArray := prog_14_method_22_code
def yX12_set : MethodName := ⟨RX12, "set", "(II)I"⟩
abbrev cX12_wind : ByteArray := prog_14_method_23_code
def yX12_wind : MethodName := ⟨RX12, "wind", "()I"⟩
abbrev cX12_addGears : ByteArray := prog_14_method_24_code
def yX12_addGears : MethodName := ⟨RX12, "addGears", "(II)I"⟩
abbrev cX12_isPair : ByteArray := prog_14_method_25_code
def yX12_isPair : MethodName := ⟨RX12, "isPair", "(I)Z"⟩
abbrev cX12_removeGears : ByteArray := prog_14_method_26_code
def yX12_removeGears : MethodName := ⟨RX12, "removeGears", "(I)I"⟩
abbrev cX12_gear : ByteArray := prog_14_method_27_code
def yX12_gear : MethodName := ⟨RX12, "gear", "(II)I"⟩
abbrev cX12_count : ByteArray := prog_14_method_28_code
def yX12_count : MethodName := ⟨RX12, "count", "(I)I"⟩
abbrev cX12_account : ByteArray := prog_14_method_29_code
def yX12_account : MethodName := ⟨RX12, "account", "(I)I"⟩
abbrev cX12_mark : ByteArray := prog_14_method_30_code
def yX12_mark : MethodName := ⟨RX12, "mark", "(II)I"⟩
abbrev cX12_apart : ByteArray := prog_14_method_31_code
def yX12_apart : MethodName := ⟨RX12, "apart", "(I)I"⟩
abbrev cX12_parts : ByteArray := prog_14_method_32_code
def yX12_parts : MethodName := ⟨RX12, "parts", "()V"⟩
abbrev cX12_lossOf : ByteArray := prog_14_method_33_code
def yX12_lossOf : MethodName := ⟨RX12, "lossOf", "(I)I"⟩
abbrev cX12_amountOf : ByteArray := prog_14_method_34_code
def yX12_amountOf : MethodName := ⟨RX12, "amountOf", "(I)I"⟩
abbrev cX12_peakOf : ByteArray := prog_14_method_35_code
def yX12_peakOf : MethodName := ⟨RX12, "peakOf", "(I)I"⟩
abbrev cX12_storm : ByteArray := prog_14_method_36_code
def yX12_storm : MethodName := ⟨RX12, "storm", "(II)I"⟩
abbrev cX12_greatestStorm : ByteArray := prog_14_method_37_code
def yX12_greatestStorm : MethodName := ⟨RX12, "greatestStorm", "()I"⟩
abbrev cX12_gapForOne : ByteArray := prog_14_method_38_code
def yX12_gapForOne : MethodName := ⟨RX12, "gapForOne", "()I"⟩
abbrev cX12_ifRun : ByteArray := prog_14_method_39_code
def yX12_ifRun : MethodName := ⟨RX12, "ifRun", "(II)I"⟩
abbrev cX12_capacityFor : ByteArray := prog_14_method_40_code
def yX12_capacityFor : MethodName := ⟨RX12, "capacityFor", "(II)I"⟩
abbrev cX12_untilStop : ByteArray := prog_14_method_41_code
def yX12_untilStop : MethodName := ⟨RX12, "untilStop", "()I"⟩
abbrev cX12_gearsFor : ByteArray := prog_14_method_42_code
def yX12_gearsFor : MethodName := ⟨RX12, "gearsFor", "(I)I"⟩
abbrev cX12_type : ByteArray := prog_14_method_43_code
def yX12_type : MethodName := ⟨RX12, "type", "(I)I"⟩
abbrev cX12_clearText : ByteArray := prog_14_method_44_code
def yX12_clearText : MethodName := ⟨RX12, "clearText", "()I"⟩
abbrev cX12_takes : ByteArray := prog_14_method_45_code
def yX12_takes : MethodName := ⟨RX12, "takes", "(IC)Z"⟩
abbrev cX12_readsShower : ByteArray := prog_14_method_46_code
def yX12_readsShower : MethodName := ⟨RX12, "readsShower", "()Z"⟩
abbrev cX12_faulty : ByteArray := prog_14_method_47_code
def yX12_faulty : MethodName := ⟨RX12, "faulty", "()I"⟩
abbrev cX12_fault : ByteArray := prog_14_method_48_code
def yX12_fault : MethodName := ⟨RX12, "fault", "(I)I"⟩
abbrev cX12_lay : ByteArray := prog_14_method_49_code
def yX12_lay : MethodName := ⟨RX12, "lay", "()I"⟩
def RJ9 : String := "java/lang/Math"
abbrev cJ9_floorDiv_7cf53 : ByteArray := prog_15_method_47_code
def yJ9_floorDiv_7cf53 : MethodName := ⟨RJ9, "floorDiv", "(II)I"⟩
abbrev cJ9_max_7cf53 : ByteArray := prog_15_method_65_code
def yJ9_max_7cf53 : MethodName := ⟨RJ9, "max", "(II)I"⟩
abbrev cJ9_min_7cf53 : ByteArray := prog_15_method_69_code
def yJ9_min_7cf53 : MethodName := ⟨RJ9, "min", "(II)I"⟩
def RJ10 : String := "java/lang/System"
def RL : String := "RainRecorderLaw"
abbrev cL_law : ByteArray := code
abbrev vwCl : List vw_C := [(RX0, TX0, 6), (RX1, TX1, 2), (RX2, TX2, 2), (RX3, TX3, 3), (RX4, TX4, 2), (RX5, TX5, 4), (RX6, TX6, 3), (RX7, TX7, 7), (RX8, TX8, 4), (RX9, TX9, 9), (RX10, TX10, 2), (RX11, TX11, 6), (RX12, TX12, 12)]
/-- the words that every method takes: those of the tables that stay while the machine goes on -/
def TB : List Cond := lw_tbl.filter goodWord
theorem TB_good : GoodIn TB TB := fun w h => ⟨h, good_of_word (List.mem_filter.mp h).2⟩
theorem tbm (i : Nat) {w : Cond} (h : lw_tbl[i]? = some w) (g : goodWord w = true) : w ∈ TB := List.mem_filter.mpr ⟨List.mem_of_getElem? h, g⟩
def nestWord : Cond → Bool
  | .methodLinkNest _ _ _ _ => true
  | .fieldLinkNest _ _ _ _ _ _ => true
  | _ => false
def TN : List Cond := lw_tbl.filter nestWord
theorem tnm (i : Nat) {w : Cond} (h : lw_tbl[i]? = some w) (g : nestWord w = true) : w ∈ TN := List.mem_filter.mpr ⟨List.mem_of_getElem? h, g⟩
theorem tb_sub {ws : List Cond} (h1 : ∀ w ∈ ws, w ∈ lw_tbl) (h2 : ws.all goodWord = true) : ∀ w ∈ ws, w ∈ TB := fun w h => List.mem_filter.mpr ⟨h1 w h, List.all_eq_true.mp h2 w h⟩
set_option maxRecDepth 100000 in
theorem tb_in0 : ∀ w ∈ u_ws RX0 TX0 6, w ∈ TB := tb_sub (by decide +kernel) (by decide +kernel)
set_option maxRecDepth 100000 in
theorem tb_in1 : ∀ w ∈ u_ws RX1 TX1 2, w ∈ TB := tb_sub (by decide +kernel) (by decide +kernel)
set_option maxRecDepth 100000 in
theorem tb_in2 : ∀ w ∈ u_ws RX2 TX2 2, w ∈ TB := tb_sub (by decide +kernel) (by decide +kernel)
set_option maxRecDepth 100000 in
theorem tb_in3 : ∀ w ∈ u_ws RX3 TX3 3, w ∈ TB := tb_sub (by decide +kernel) (by decide +kernel)
set_option maxRecDepth 100000 in
theorem tb_in4 : ∀ w ∈ u_ws RX4 TX4 2, w ∈ TB := tb_sub (by decide +kernel) (by decide +kernel)
set_option maxRecDepth 100000 in
theorem tb_in5 : ∀ w ∈ u_ws RX5 TX5 4, w ∈ TB := tb_sub (by decide +kernel) (by decide +kernel)
set_option maxRecDepth 100000 in
theorem tb_in6 : ∀ w ∈ u_ws RX6 TX6 3, w ∈ TB := tb_sub (by decide +kernel) (by decide +kernel)
set_option maxRecDepth 100000 in
theorem tb_in7 : ∀ w ∈ u_ws RX7 TX7 7, w ∈ TB := tb_sub (by decide +kernel) (by decide +kernel)
set_option maxRecDepth 100000 in
theorem tb_in8 : ∀ w ∈ u_ws RX8 TX8 4, w ∈ TB := tb_sub (by decide +kernel) (by decide +kernel)
set_option maxRecDepth 100000 in
theorem tb_in9 : ∀ w ∈ u_ws RX9 TX9 9, w ∈ TB := tb_sub (by decide +kernel) (by decide +kernel)
set_option maxRecDepth 100000 in
theorem tb_in10 : ∀ w ∈ u_ws RX10 TX10 2, w ∈ TB := tb_sub (by decide +kernel) (by decide +kernel)
set_option maxRecDepth 100000 in
theorem tb_in11 : ∀ w ∈ u_ws RX11 TX11 6, w ∈ TB := tb_sub (by decide +kernel) (by decide +kernel)
set_option maxRecDepth 100000 in
theorem tb_in12 : ∀ w ∈ u_ws RX12 TX12 12, w ∈ TB := tb_sub (by decide +kernel) (by decide +kernel)
end
section
theorem dX0_init_0 : decode cX0_init 0 = .ok (.aload_n 0, 1) := by decide +kernel
theorem dX0_init_1 : decode cX0_init 1 = .ok (.invokespecial 3, 3) := by decide +kernel
theorem dX0_init_4 : decode cX0_init 4 = .ok (.return_, 1) := by decide +kernel
theorem dX0_copyFrom_0 : decode cX0_copyFrom 0 = .ok (.aload_n 0, 1) := by decide +kernel
theorem dX0_copyFrom_1 : decode cX0_copyFrom 1 = .ok (.aload_n 1, 1) := by decide +kernel
theorem dX0_copyFrom_2 : decode cX0_copyFrom 2 = .ok (.getfield 9, 3) := by decide +kernel
theorem dX0_copyFrom_5 : decode cX0_copyFrom 5 = .ok (.putfield 9, 3) := by decide +kernel
theorem dX0_copyFrom_8 : decode cX0_copyFrom 8 = .ok (.aload_n 0, 1) := by decide +kernel
theorem dX0_copyFrom_9 : decode cX0_copyFrom 9 = .ok (.aload_n 1, 1) := by decide +kernel
theorem dX0_copyFrom_10 : decode cX0_copyFrom 10 = .ok (.getfield 15, 3) := by decide +kernel
theorem dX0_copyFrom_13 : decode cX0_copyFrom 13 = .ok (.putfield 15, 3) := by decide +kernel
theorem dX0_copyFrom_16 : decode cX0_copyFrom 16 = .ok (.aload_n 0, 1) := by decide +kernel
theorem dX0_copyFrom_17 : decode cX0_copyFrom 17 = .ok (.aload_n 1, 1) := by decide +kernel
theorem dX0_copyFrom_18 : decode cX0_copyFrom 18 = .ok (.getfield 18, 3) := by decide +kernel
theorem dX0_copyFrom_21 : decode cX0_copyFrom 21 = .ok (.putfield 18, 3) := by decide +kernel
theorem dX0_copyFrom_24 : decode cX0_copyFrom 24 = .ok (.aload_n 0, 1) := by decide +kernel
theorem dX0_copyFrom_25 : decode cX0_copyFrom 25 = .ok (.aload_n 1, 1) := by decide +kernel
theorem dX0_copyFrom_26 : decode cX0_copyFrom 26 = .ok (.getfield 21, 3) := by decide +kernel
theorem dX0_copyFrom_29 : decode cX0_copyFrom 29 = .ok (.putfield 21, 3) := by decide +kernel
theorem dX0_copyFrom_32 : decode cX0_copyFrom 32 = .ok (.aload_n 0, 1) := by decide +kernel
theorem dX0_copyFrom_33 : decode cX0_copyFrom 33 = .ok (.aload_n 1, 1) := by decide +kernel
theorem dX0_copyFrom_34 : decode cX0_copyFrom 34 = .ok (.getfield 24, 3) := by decide +kernel
theorem dX0_copyFrom_37 : decode cX0_copyFrom 37 = .ok (.putfield 24, 3) := by decide +kernel
theorem dX0_copyFrom_40 : decode cX0_copyFrom 40 = .ok (.aload_n 0, 1) := by decide +kernel
theorem dX0_copyFrom_41 : decode cX0_copyFrom 41 = .ok (.aload_n 1, 1) := by decide +kernel
theorem dX0_copyFrom_42 : decode cX0_copyFrom 42 = .ok (.getfield 27, 3) := by decide +kernel
theorem dX0_copyFrom_45 : decode cX0_copyFrom 45 = .ok (.putfield 27, 3) := by decide +kernel
theorem dX0_copyFrom_48 : decode cX0_copyFrom 48 = .ok (.return_, 1) := by decide +kernel
theorem dX0_passTick_0 : decode cX0_passTick 0 = .ok (.aload_n 0, 1) := by decide +kernel
theorem dX0_passTick_1 : decode cX0_passTick 1 = .ok (.getfield 15, 3) := by decide +kernel
theorem dX0_passTick_4 : decode cX0_passTick 4 = .ok (.ifCond .le 25, 3) := by decide +kernel
theorem dX0_passTick_7 : decode cX0_passTick 7 = .ok (.aload_n 0, 1) := by decide +kernel
theorem dX0_passTick_8 : decode cX0_passTick 8 = .ok (.dup, 1) := by decide +kernel
theorem dX0_passTick_9 : decode cX0_passTick 9 = .ok (.getfield 24, 3) := by decide +kernel
theorem dX0_passTick_12 : decode cX0_passTick 12 = .ok (.iload_n 1, 1) := by decide +kernel
theorem dX0_passTick_13 : decode cX0_passTick 13 = .ok (.iadd, 1) := by decide +kernel
theorem dX0_passTick_14 : decode cX0_passTick 14 = .ok (.putfield 24, 3) := by decide +kernel
theorem dX0_passTick_17 : decode cX0_passTick 17 = .ok (.aload_n 0, 1) := by decide +kernel
theorem dX0_passTick_18 : decode cX0_passTick 18 = .ok (.dup, 1) := by decide +kernel
theorem dX0_passTick_19 : decode cX0_passTick 19 = .ok (.getfield 15, 3) := by decide +kernel
theorem dX0_passTick_22 : decode cX0_passTick 22 = .ok (.iconst 1, 1) := by decide +kernel
theorem dX0_passTick_23 : decode cX0_passTick 23 = .ok (.isub, 1) := by decide +kernel
theorem dX0_passTick_24 : decode cX0_passTick 24 = .ok (.putfield 15, 3) := by decide +kernel
theorem dX0_passTick_27 : decode cX0_passTick 27 = .ok (.iconst (-1), 1) := by decide +kernel
theorem dX0_passTick_28 : decode cX0_passTick 28 = .ok (.ireturn, 1) := by decide +kernel
theorem dX0_passTick_29 : decode cX0_passTick 29 = .ok (.aload_n 0, 1) := by decide +kernel
theorem dX0_passTick_30 : decode cX0_passTick 30 = .ok (.dup, 1) := by decide +kernel
theorem dX0_passTick_31 : decode cX0_passTick 31 = .ok (.getfield 9, 3) := by decide +kernel
theorem dX0_passTick_34 : decode cX0_passTick 34 = .ok (.iload_n 1, 1) := by decide +kernel
theorem dX0_passTick_35 : decode cX0_passTick 35 = .ok (.iadd, 1) := by decide +kernel
theorem dX0_passTick_36 : decode cX0_passTick 36 = .ok (.putfield 9, 3) := by decide +kernel
theorem dX0_passTick_39 : decode cX0_passTick 39 = .ok (.iload_n 2, 1) := by decide +kernel
theorem dX0_passTick_40 : decode cX0_passTick 40 = .ok (.ifCond .eq 36, 3) := by decide +kernel
theorem dX0_passTick_43 : decode cX0_passTick 43 = .ok (.aload_n 0, 1) := by decide +kernel
theorem dX0_passTick_44 : decode cX0_passTick 44 = .ok (.getfield 9, 3) := by decide +kernel
theorem dX0_passTick_47 : decode cX0_passTick 47 = .ok (.iload 5, 2) := by decide +kernel
theorem dX0_passTick_49 : decode cX0_passTick 49 = .ok (.invokestatic 30, 3) := by decide +kernel
theorem dX0_passTick_52 : decode cX0_passTick 52 = .ok (.istore 6, 2) := by decide +kernel
theorem dX0_passTick_54 : decode cX0_passTick 54 = .ok (.aload_n 0, 1) := by decide +kernel
theorem dX0_passTick_55 : decode cX0_passTick 55 = .ok (.dup, 1) := by decide +kernel
theorem dX0_passTick_56 : decode cX0_passTick 56 = .ok (.getfield 9, 3) := by decide +kernel
theorem dX0_passTick_59 : decode cX0_passTick 59 = .ok (.iload 6, 2) := by decide +kernel
theorem dX0_passTick_61 : decode cX0_passTick 61 = .ok (.isub, 1) := by decide +kernel
theorem dX0_passTick_62 : decode cX0_passTick 62 = .ok (.putfield 9, 3) := by decide +kernel
theorem dX0_passTick_65 : decode cX0_passTick 65 = .ok (.aload_n 0, 1) := by decide +kernel
theorem dX0_passTick_66 : decode cX0_passTick 66 = .ok (.dup, 1) := by decide +kernel
theorem dX0_passTick_67 : decode cX0_passTick 67 = .ok (.getfield 27, 3) := by decide +kernel
theorem dX0_passTick_70 : decode cX0_passTick 70 = .ok (.iload 6, 2) := by decide +kernel
theorem dX0_passTick_72 : decode cX0_passTick 72 = .ok (.iadd, 1) := by decide +kernel
theorem dX0_passTick_73 : decode cX0_passTick 73 = .ok (.putfield 27, 3) := by decide +kernel
theorem dX0_passTick_76 : decode cX0_passTick 76 = .ok (.aload_n 0, 1) := by decide +kernel
theorem dX0_passTick_77 : decode cX0_passTick 77 = .ok (.getfield 9, 3) := by decide +kernel
theorem dX0_passTick_80 : decode cX0_passTick 80 = .ok (.iload_n 3, 1) := by decide +kernel
theorem dX0_passTick_81 : decode cX0_passTick 81 = .ok (.if_icmp .lt 13, 3) := by decide +kernel
theorem dX0_passTick_84 : decode cX0_passTick 84 = .ok (.aload_n 0, 1) := by decide +kernel
theorem dX0_passTick_85 : decode cX0_passTick 85 = .ok (.iload_n 3, 1) := by decide +kernel
theorem dX0_passTick_86 : decode cX0_passTick 86 = .ok (.iload 4, 2) := by decide +kernel
theorem dX0_passTick_88 : decode cX0_passTick 88 = .ok (.invokevirtual 36, 3) := by decide +kernel
theorem dX0_passTick_91 : decode cX0_passTick 91 = .ok (.goto 4, 3) := by decide +kernel
theorem dX0_passTick_94 : decode cX0_passTick 94 = .ok (.iconst (-1), 1) := by decide +kernel
theorem dX0_passTick_95 : decode cX0_passTick 95 = .ok (.ireturn, 1) := by decide +kernel
theorem dX0_tip_0 : decode cX0_tip 0 = .ok (.aload_n 0, 1) := by decide +kernel
theorem dX0_tip_1 : decode cX0_tip 1 = .ok (.getfield 9, 3) := by decide +kernel
theorem dX0_tip_4 : decode cX0_tip 4 = .ok (.iload_n 1, 1) := by decide +kernel
theorem dX0_tip_5 : decode cX0_tip 5 = .ok (.isub, 1) := by decide +kernel
theorem dX0_tip_6 : decode cX0_tip 6 = .ok (.istore_n 3, 1) := by decide +kernel
theorem dX0_tip_7 : decode cX0_tip 7 = .ok (.aload_n 0, 1) := by decide +kernel
theorem dX0_tip_8 : decode cX0_tip 8 = .ok (.dup, 1) := by decide +kernel
theorem dX0_tip_9 : decode cX0_tip 9 = .ok (.getfield 18, 3) := by decide +kernel
theorem dX0_tip_12 : decode cX0_tip 12 = .ok (.iload_n 1, 1) := by decide +kernel
theorem dX0_tip_13 : decode cX0_tip 13 = .ok (.iadd, 1) := by decide +kernel
theorem dX0_tip_14 : decode cX0_tip 14 = .ok (.putfield 18, 3) := by decide +kernel
theorem dX0_tip_17 : decode cX0_tip 17 = .ok (.aload_n 0, 1) := by decide +kernel
theorem dX0_tip_18 : decode cX0_tip 18 = .ok (.dup, 1) := by decide +kernel
theorem dX0_tip_19 : decode cX0_tip 19 = .ok (.getfield 21, 3) := by decide +kernel
theorem dX0_tip_22 : decode cX0_tip 22 = .ok (.iload_n 3, 1) := by decide +kernel
theorem dX0_tip_23 : decode cX0_tip 23 = .ok (.iadd, 1) := by decide +kernel
theorem dX0_tip_24 : decode cX0_tip 24 = .ok (.putfield 21, 3) := by decide +kernel
theorem dX0_tip_27 : decode cX0_tip 27 = .ok (.aload_n 0, 1) := by decide +kernel
theorem dX0_tip_28 : decode cX0_tip 28 = .ok (.iconst 0, 1) := by decide +kernel
theorem dX0_tip_29 : decode cX0_tip 29 = .ok (.putfield 9, 3) := by decide +kernel
theorem dX0_tip_32 : decode cX0_tip 32 = .ok (.aload_n 0, 1) := by decide +kernel
theorem dX0_tip_33 : decode cX0_tip 33 = .ok (.iload_n 2, 1) := by decide +kernel
theorem dX0_tip_34 : decode cX0_tip 34 = .ok (.putfield 15, 3) := by decide +kernel
theorem dX0_tip_37 : decode cX0_tip 37 = .ok (.iload_n 3, 1) := by decide +kernel
theorem dX0_tip_38 : decode cX0_tip 38 = .ok (.ireturn, 1) := by decide +kernel
theorem dX1_init_0 : decode cX1_init 0 = .ok (.aload_n 0, 1) := by decide +kernel
theorem dX1_init_1 : decode cX1_init 1 = .ok (.invokespecial 3, 3) := by decide +kernel
theorem dX1_init_4 : decode cX1_init 4 = .ok (.aload_n 0, 1) := by decide +kernel
theorem dX1_init_5 : decode cX1_init 5 = .ok (.getstatic 9, 3) := by decide +kernel
theorem dX1_init_8 : decode cX1_init 8 = .ok (.bipush 6, 2) := by decide +kernel
theorem dX1_init_10 : decode cX1_init 10 = .ok (.iaload, 1) := by decide +kernel
theorem dX1_init_11 : decode cX1_init 11 = .ok (.putfield 13, 3) := by decide +kernel
theorem dX1_init_14 : decode cX1_init 14 = .ok (.return_, 1) := by decide +kernel
theorem dX1_copyFrom_0 : decode cX1_copyFrom 0 = .ok (.aload_n 0, 1) := by decide +kernel
theorem dX1_copyFrom_1 : decode cX1_copyFrom 1 = .ok (.aload_n 1, 1) := by decide +kernel
theorem dX1_copyFrom_2 : decode cX1_copyFrom 2 = .ok (.getfield 13, 3) := by decide +kernel
theorem dX1_copyFrom_5 : decode cX1_copyFrom 5 = .ok (.putfield 13, 3) := by decide +kernel
theorem dX1_copyFrom_8 : decode cX1_copyFrom 8 = .ok (.aload_n 0, 1) := by decide +kernel
theorem dX1_copyFrom_9 : decode cX1_copyFrom 9 = .ok (.aload_n 1, 1) := by decide +kernel
theorem dX1_copyFrom_10 : decode cX1_copyFrom 10 = .ok (.getfield 19, 3) := by decide +kernel
theorem dX1_copyFrom_13 : decode cX1_copyFrom 13 = .ok (.putfield 19, 3) := by decide +kernel
theorem dX1_copyFrom_16 : decode cX1_copyFrom 16 = .ok (.return_, 1) := by decide +kernel
theorem dX1_passTick_0 : decode cX1_passTick 0 = .ok (.aload_n 0, 1) := by decide +kernel
theorem dX1_passTick_1 : decode cX1_passTick 1 = .ok (.getfield 13, 3) := by decide +kernel
theorem dX1_passTick_4 : decode cX1_passTick 4 = .ok (.ifCond .le 23, 3) := by decide +kernel
theorem dX1_passTick_7 : decode cX1_passTick 7 = .ok (.aload_n 0, 1) := by decide +kernel
theorem dX1_passTick_8 : decode cX1_passTick 8 = .ok (.dup, 1) := by decide +kernel
theorem dX1_passTick_9 : decode cX1_passTick 9 = .ok (.getfield 13, 3) := by decide +kernel
theorem dX1_passTick_12 : decode cX1_passTick 12 = .ok (.iconst 1, 1) := by decide +kernel
theorem dX1_passTick_13 : decode cX1_passTick 13 = .ok (.isub, 1) := by decide +kernel
theorem dX1_passTick_14 : decode cX1_passTick 14 = .ok (.putfield 13, 3) := by decide +kernel
theorem dX1_passTick_17 : decode cX1_passTick 17 = .ok (.aload_n 0, 1) := by decide +kernel
theorem dX1_passTick_18 : decode cX1_passTick 18 = .ok (.dup, 1) := by decide +kernel
theorem dX1_passTick_19 : decode cX1_passTick 19 = .ok (.getfield 19, 3) := by decide +kernel
theorem dX1_passTick_22 : decode cX1_passTick 22 = .ok (.iconst 1, 1) := by decide +kernel
theorem dX1_passTick_23 : decode cX1_passTick 23 = .ok (.iadd, 1) := by decide +kernel
theorem dX1_passTick_24 : decode cX1_passTick 24 = .ok (.putfield 19, 3) := by decide +kernel
theorem dX1_passTick_27 : decode cX1_passTick 27 = .ok (.return_, 1) := by decide +kernel
theorem dX2_init_0 : decode cX2_init 0 = .ok (.aload_n 0, 1) := by decide +kernel
theorem dX2_init_1 : decode cX2_init 1 = .ok (.invokespecial 1, 3) := by decide +kernel
theorem dX2_init_4 : decode cX2_init 4 = .ok (.return_, 1) := by decide +kernel
theorem dX2_copyFrom_0 : decode cX2_copyFrom 0 = .ok (.aload_n 0, 1) := by decide +kernel
theorem dX2_copyFrom_1 : decode cX2_copyFrom 1 = .ok (.aload_n 1, 1) := by decide +kernel
theorem dX2_copyFrom_2 : decode cX2_copyFrom 2 = .ok (.getfield 7, 3) := by decide +kernel
theorem dX2_copyFrom_5 : decode cX2_copyFrom 5 = .ok (.putfield 7, 3) := by decide +kernel
theorem dX2_copyFrom_8 : decode cX2_copyFrom 8 = .ok (.aload_n 0, 1) := by decide +kernel
theorem dX2_copyFrom_9 : decode cX2_copyFrom 9 = .ok (.aload_n 1, 1) := by decide +kernel
theorem dX2_copyFrom_10 : decode cX2_copyFrom 10 = .ok (.getfield 13, 3) := by decide +kernel
theorem dX2_copyFrom_13 : decode cX2_copyFrom 13 = .ok (.putfield 13, 3) := by decide +kernel
theorem dX2_copyFrom_16 : decode cX2_copyFrom 16 = .ok (.return_, 1) := by decide +kernel
theorem dX2_passTick_0 : decode cX2_passTick 0 = .ok (.iload_n 1, 1) := by decide +kernel
theorem dX2_passTick_1 : decode cX2_passTick 1 = .ok (.iconst 0, 1) := by decide +kernel
theorem dX2_passTick_2 : decode cX2_passTick 2 = .ok (.iload_n 2, 1) := by decide +kernel
theorem dX2_passTick_3 : decode cX2_passTick 3 = .ok (.aload_n 0, 1) := by decide +kernel
theorem dX2_passTick_4 : decode cX2_passTick 4 = .ok (.getfield 7, 3) := by decide +kernel
theorem dX2_passTick_7 : decode cX2_passTick 7 = .ok (.isub, 1) := by decide +kernel
theorem dX2_passTick_8 : decode cX2_passTick 8 = .ok (.invokestatic 16, 3) := by decide +kernel
theorem dX2_passTick_11 : decode cX2_passTick 11 = .ok (.invokestatic 22, 3) := by decide +kernel
theorem dX2_passTick_14 : decode cX2_passTick 14 = .ok (.istore 4, 2) := by decide +kernel
theorem dX2_passTick_16 : decode cX2_passTick 16 = .ok (.aload_n 0, 1) := by decide +kernel
theorem dX2_passTick_17 : decode cX2_passTick 17 = .ok (.dup, 1) := by decide +kernel
theorem dX2_passTick_18 : decode cX2_passTick 18 = .ok (.getfield 7, 3) := by decide +kernel
theorem dX2_passTick_21 : decode cX2_passTick 21 = .ok (.iload 4, 2) := by decide +kernel
theorem dX2_passTick_23 : decode cX2_passTick 23 = .ok (.iadd, 1) := by decide +kernel
theorem dX2_passTick_24 : decode cX2_passTick 24 = .ok (.putfield 7, 3) := by decide +kernel
theorem dX2_passTick_27 : decode cX2_passTick 27 = .ok (.iload_n 1, 1) := by decide +kernel
theorem dX2_passTick_28 : decode cX2_passTick 28 = .ok (.ifCond .ne 35, 3) := by decide +kernel
theorem dX2_passTick_31 : decode cX2_passTick 31 = .ok (.aload_n 0, 1) := by decide +kernel
theorem dX2_passTick_32 : decode cX2_passTick 32 = .ok (.getfield 7, 3) := by decide +kernel
theorem dX2_passTick_35 : decode cX2_passTick 35 = .ok (.iload_n 3, 1) := by decide +kernel
theorem dX2_passTick_36 : decode cX2_passTick 36 = .ok (.invokestatic 22, 3) := by decide +kernel
theorem dX2_passTick_39 : decode cX2_passTick 39 = .ok (.istore 5, 2) := by decide +kernel
theorem dX2_passTick_41 : decode cX2_passTick 41 = .ok (.aload_n 0, 1) := by decide +kernel
theorem dX2_passTick_42 : decode cX2_passTick 42 = .ok (.dup, 1) := by decide +kernel
theorem dX2_passTick_43 : decode cX2_passTick 43 = .ok (.getfield 7, 3) := by decide +kernel
theorem dX2_passTick_46 : decode cX2_passTick 46 = .ok (.iload 5, 2) := by decide +kernel
theorem dX2_passTick_48 : decode cX2_passTick 48 = .ok (.isub, 1) := by decide +kernel
theorem dX2_passTick_49 : decode cX2_passTick 49 = .ok (.putfield 7, 3) := by decide +kernel
theorem dX2_passTick_52 : decode cX2_passTick 52 = .ok (.aload_n 0, 1) := by decide +kernel
theorem dX2_passTick_53 : decode cX2_passTick 53 = .ok (.dup, 1) := by decide +kernel
theorem dX2_passTick_54 : decode cX2_passTick 54 = .ok (.getfield 13, 3) := by decide +kernel
theorem dX2_passTick_57 : decode cX2_passTick 57 = .ok (.iload 5, 2) := by decide +kernel
theorem dX2_passTick_59 : decode cX2_passTick 59 = .ok (.iadd, 1) := by decide +kernel
theorem dX2_passTick_60 : decode cX2_passTick 60 = .ok (.putfield 13, 3) := by decide +kernel
theorem dX2_passTick_63 : decode cX2_passTick 63 = .ok (.iload_n 1, 1) := by decide +kernel
theorem dX2_passTick_64 : decode cX2_passTick 64 = .ok (.iload 4, 2) := by decide +kernel
theorem dX2_passTick_66 : decode cX2_passTick 66 = .ok (.isub, 1) := by decide +kernel
theorem dX2_passTick_67 : decode cX2_passTick 67 = .ok (.ireturn, 1) := by decide +kernel
theorem dX3_init_0 : decode cX3_init 0 = .ok (.aload_n 0, 1) := by decide +kernel
theorem dX3_init_1 : decode cX3_init 1 = .ok (.invokespecial 3, 3) := by decide +kernel
theorem dX3_init_4 : decode cX3_init 4 = .ok (.aload_n 0, 1) := by decide +kernel
theorem dX3_init_5 : decode cX3_init 5 = .ok (.iconst 3, 1) := by decide +kernel
theorem dX3_init_6 : decode cX3_init 6 = .ok (.newarray .int, 2) := by decide +kernel
theorem dX3_init_8 : decode cX3_init 8 = .ok (.putfield 9, 3) := by decide +kernel
theorem dX3_init_11 : decode cX3_init 11 = .ok (.aload_n 0, 1) := by decide +kernel
theorem dX3_init_12 : decode cX3_init 12 = .ok (.iconst 3, 1) := by decide +kernel
theorem dX3_init_13 : decode cX3_init 13 = .ok (.newarray .int, 2) := by decide +kernel
theorem dX3_init_15 : decode cX3_init 15 = .ok (.putfield 15, 3) := by decide +kernel
theorem dX3_init_18 : decode cX3_init 18 = .ok (.return_, 1) := by decide +kernel
theorem dX3_copyFrom_0 : decode cX3_copyFrom 0 = .ok (.aload_n 1, 1) := by decide +kernel
theorem dX3_copyFrom_1 : decode cX3_copyFrom 1 = .ok (.getfield 9, 3) := by decide +kernel
theorem dX3_copyFrom_4 : decode cX3_copyFrom 4 = .ok (.aload_n 0, 1) := by decide +kernel
theorem dX3_copyFrom_5 : decode cX3_copyFrom 5 = .ok (.getfield 9, 3) := by decide +kernel
theorem dX3_copyFrom_8 : decode cX3_copyFrom 8 = .ok (.invokestatic 18, 3) := by decide +kernel
theorem dX3_copyFrom_11 : decode cX3_copyFrom 11 = .ok (.aload_n 1, 1) := by decide +kernel
theorem dX3_copyFrom_12 : decode cX3_copyFrom 12 = .ok (.getfield 15, 3) := by decide +kernel
theorem dX3_copyFrom_15 : decode cX3_copyFrom 15 = .ok (.aload_n 0, 1) := by decide +kernel
theorem dX3_copyFrom_16 : decode cX3_copyFrom 16 = .ok (.getfield 15, 3) := by decide +kernel
theorem dX3_copyFrom_19 : decode cX3_copyFrom 19 = .ok (.invokestatic 18, 3) := by decide +kernel
theorem dX3_copyFrom_22 : decode cX3_copyFrom 22 = .ok (.aload_n 0, 1) := by decide +kernel
theorem dX3_copyFrom_23 : decode cX3_copyFrom 23 = .ok (.aload_n 1, 1) := by decide +kernel
theorem dX3_copyFrom_24 : decode cX3_copyFrom 24 = .ok (.getfield 22, 3) := by decide +kernel
theorem dX3_copyFrom_27 : decode cX3_copyFrom 27 = .ok (.putfield 22, 3) := by decide +kernel
theorem dX3_copyFrom_30 : decode cX3_copyFrom 30 = .ok (.return_, 1) := by decide +kernel
theorem dX3_has_0 : decode cX3_has 0 = .ok (.iload_n 1, 1) := by decide +kernel
theorem dX3_has_1 : decode cX3_has 1 = .ok (.ifCond .lt 15, 3) := by decide +kernel
theorem dX3_has_4 : decode cX3_has 4 = .ok (.iload_n 1, 1) := by decide +kernel
theorem dX3_has_5 : decode cX3_has 5 = .ok (.aload_n 0, 1) := by decide +kernel
theorem dX3_has_6 : decode cX3_has 6 = .ok (.getfield 22, 3) := by decide +kernel
theorem dX3_has_9 : decode cX3_has 9 = .ok (.if_icmp .ge 7, 3) := by decide +kernel
theorem dX3_has_12 : decode cX3_has 12 = .ok (.iconst 1, 1) := by decide +kernel
theorem dX3_has_13 : decode cX3_has 13 = .ok (.goto 4, 3) := by decide +kernel
theorem dX3_has_16 : decode cX3_has 16 = .ok (.iconst 0, 1) := by decide +kernel
theorem dX3_has_17 : decode cX3_has 17 = .ok (.ireturn, 1) := by decide +kernel
theorem dX3_append_0 : decode cX3_append 0 = .ok (.aload_n 0, 1) := by decide +kernel
theorem dX3_append_1 : decode cX3_append 1 = .ok (.getfield 22, 3) := by decide +kernel
theorem dX3_append_4 : decode cX3_append 4 = .ok (.iconst 3, 1) := by decide +kernel
theorem dX3_append_5 : decode cX3_append 5 = .ok (.if_icmp .lt 4, 3) := by decide +kernel
theorem dX3_append_8 : decode cX3_append 8 = .ok (.return_, 1) := by decide +kernel
theorem dX3_append_9 : decode cX3_append 9 = .ok (.aload_n 0, 1) := by decide +kernel
theorem dX3_append_10 : decode cX3_append 10 = .ok (.getfield 9, 3) := by decide +kernel
theorem dX3_append_13 : decode cX3_append 13 = .ok (.aload_n 0, 1) := by decide +kernel
theorem dX3_append_14 : decode cX3_append 14 = .ok (.getfield 22, 3) := by decide +kernel
theorem dX3_append_17 : decode cX3_append 17 = .ok (.iload_n 1, 1) := by decide +kernel
theorem dX3_append_18 : decode cX3_append 18 = .ok (.iastore, 1) := by decide +kernel
theorem dX3_append_19 : decode cX3_append 19 = .ok (.aload_n 0, 1) := by decide +kernel
theorem dX3_append_20 : decode cX3_append 20 = .ok (.getfield 15, 3) := by decide +kernel
theorem dX3_append_23 : decode cX3_append 23 = .ok (.aload_n 0, 1) := by decide +kernel
theorem dX3_append_24 : decode cX3_append 24 = .ok (.getfield 22, 3) := by decide +kernel
theorem dX3_append_27 : decode cX3_append 27 = .ok (.iload_n 2, 1) := by decide +kernel
theorem dX3_append_28 : decode cX3_append 28 = .ok (.iastore, 1) := by decide +kernel
theorem dX3_append_29 : decode cX3_append 29 = .ok (.aload_n 0, 1) := by decide +kernel
theorem dX3_append_30 : decode cX3_append 30 = .ok (.dup, 1) := by decide +kernel
theorem dX3_append_31 : decode cX3_append 31 = .ok (.getfield 22, 3) := by decide +kernel
theorem dX3_append_34 : decode cX3_append 34 = .ok (.iconst 1, 1) := by decide +kernel
theorem dX3_append_35 : decode cX3_append 35 = .ok (.iadd, 1) := by decide +kernel
theorem dX3_append_36 : decode cX3_append 36 = .ok (.putfield 22, 3) := by decide +kernel
theorem dX3_append_39 : decode cX3_append 39 = .ok (.return_, 1) := by decide +kernel
theorem dX3_removeAt_0 : decode cX3_removeAt 0 = .ok (.aload_n 0, 1) := by decide +kernel
theorem dX3_removeAt_1 : decode cX3_removeAt 1 = .ok (.iload_n 1, 1) := by decide +kernel
theorem dX3_removeAt_2 : decode cX3_removeAt 2 = .ok (.invokevirtual 26, 3) := by decide +kernel
theorem dX3_removeAt_5 : decode cX3_removeAt 5 = .ok (.ifCond .ne 4, 3) := by decide +kernel
theorem dX3_removeAt_8 : decode cX3_removeAt 8 = .ok (.return_, 1) := by decide +kernel
theorem dX3_removeAt_9 : decode cX3_removeAt 9 = .ok (.iload_n 1, 1) := by decide +kernel
theorem dX3_removeAt_10 : decode cX3_removeAt 10 = .ok (.iconst 1, 1) := by decide +kernel
theorem dX3_removeAt_11 : decode cX3_removeAt 11 = .ok (.iadd, 1) := by decide +kernel
theorem dX3_removeAt_12 : decode cX3_removeAt 12 = .ok (.istore_n 2, 1) := by decide +kernel
theorem dX3_removeAt_13 : decode cX3_removeAt 13 = .ok (.iload_n 2, 1) := by decide +kernel
theorem dX3_removeAt_14 : decode cX3_removeAt 14 = .ok (.aload_n 0, 1) := by decide +kernel
theorem dX3_removeAt_15 : decode cX3_removeAt 15 = .ok (.getfield 22, 3) := by decide +kernel
theorem dX3_removeAt_18 : decode cX3_removeAt 18 = .ok (.if_icmp .ge 37, 3) := by decide +kernel
theorem dX3_removeAt_21 : decode cX3_removeAt 21 = .ok (.aload_n 0, 1) := by decide +kernel
theorem dX3_removeAt_22 : decode cX3_removeAt 22 = .ok (.getfield 9, 3) := by decide +kernel
theorem dX3_removeAt_25 : decode cX3_removeAt 25 = .ok (.iload_n 2, 1) := by decide +kernel
theorem dX3_removeAt_26 : decode cX3_removeAt 26 = .ok (.iconst 1, 1) := by decide +kernel
theorem dX3_removeAt_27 : decode cX3_removeAt 27 = .ok (.isub, 1) := by decide +kernel
theorem dX3_removeAt_28 : decode cX3_removeAt 28 = .ok (.aload_n 0, 1) := by decide +kernel
theorem dX3_removeAt_29 : decode cX3_removeAt 29 = .ok (.getfield 9, 3) := by decide +kernel
theorem dX3_removeAt_32 : decode cX3_removeAt 32 = .ok (.iload_n 2, 1) := by decide +kernel
theorem dX3_removeAt_33 : decode cX3_removeAt 33 = .ok (.iaload, 1) := by decide +kernel
theorem dX3_removeAt_34 : decode cX3_removeAt 34 = .ok (.iastore, 1) := by decide +kernel
theorem dX3_removeAt_35 : decode cX3_removeAt 35 = .ok (.aload_n 0, 1) := by decide +kernel
theorem dX3_removeAt_36 : decode cX3_removeAt 36 = .ok (.getfield 15, 3) := by decide +kernel
theorem dX3_removeAt_39 : decode cX3_removeAt 39 = .ok (.iload_n 2, 1) := by decide +kernel
theorem dX3_removeAt_40 : decode cX3_removeAt 40 = .ok (.iconst 1, 1) := by decide +kernel
theorem dX3_removeAt_41 : decode cX3_removeAt 41 = .ok (.isub, 1) := by decide +kernel
theorem dX3_removeAt_42 : decode cX3_removeAt 42 = .ok (.aload_n 0, 1) := by decide +kernel
theorem dX3_removeAt_43 : decode cX3_removeAt 43 = .ok (.getfield 15, 3) := by decide +kernel
theorem dX3_removeAt_46 : decode cX3_removeAt 46 = .ok (.iload_n 2, 1) := by decide +kernel
theorem dX3_removeAt_47 : decode cX3_removeAt 47 = .ok (.iaload, 1) := by decide +kernel
theorem dX3_removeAt_48 : decode cX3_removeAt 48 = .ok (.iastore, 1) := by decide +kernel
theorem dX3_removeAt_49 : decode cX3_removeAt 49 = .ok (.iinc 2 1, 3) := by decide +kernel
theorem dX3_removeAt_52 : decode cX3_removeAt 52 = .ok (.goto (-39), 3) := by decide +kernel
theorem dX3_removeAt_55 : decode cX3_removeAt 55 = .ok (.aload_n 0, 1) := by decide +kernel
theorem dX3_removeAt_56 : decode cX3_removeAt 56 = .ok (.dup, 1) := by decide +kernel
theorem dX3_removeAt_57 : decode cX3_removeAt 57 = .ok (.getfield 22, 3) := by decide +kernel
theorem dX3_removeAt_60 : decode cX3_removeAt 60 = .ok (.iconst 1, 1) := by decide +kernel
theorem dX3_removeAt_61 : decode cX3_removeAt 61 = .ok (.isub, 1) := by decide +kernel
theorem dX3_removeAt_62 : decode cX3_removeAt 62 = .ok (.putfield 22, 3) := by decide +kernel
theorem dX3_removeAt_65 : decode cX3_removeAt 65 = .ok (.return_, 1) := by decide +kernel
theorem dX3_placeOf_0 : decode cX3_placeOf 0 = .ok (.iload_n 1, 1) := by decide +kernel
theorem dX3_placeOf_1 : decode cX3_placeOf 1 = .ok (.i2l, 1) := by decide +kernel
theorem dX3_placeOf_2 : decode cX3_placeOf 2 = .ok (.lstore_n 3, 1) := by decide +kernel
theorem dX3_placeOf_3 : decode cX3_placeOf 3 = .ok (.lconst 1, 1) := by decide +kernel
theorem dX3_placeOf_4 : decode cX3_placeOf 4 = .ok (.lstore 5, 2) := by decide +kernel
theorem dX3_placeOf_6 : decode cX3_placeOf 6 = .ok (.iconst 0, 1) := by decide +kernel
theorem dX3_placeOf_7 : decode cX3_placeOf 7 = .ok (.istore 7, 2) := by decide +kernel
theorem dX3_placeOf_9 : decode cX3_placeOf 9 = .ok (.iload 7, 2) := by decide +kernel
theorem dX3_placeOf_11 : decode cX3_placeOf 11 = .ok (.aload_n 0, 1) := by decide +kernel
theorem dX3_placeOf_12 : decode cX3_placeOf 12 = .ok (.getfield 22, 3) := by decide +kernel
theorem dX3_placeOf_15 : decode cX3_placeOf 15 = .ok (.if_icmp .ge 33, 3) := by decide +kernel
theorem dX3_placeOf_18 : decode cX3_placeOf 18 = .ok (.lload_n 3, 1) := by decide +kernel
theorem dX3_placeOf_19 : decode cX3_placeOf 19 = .ok (.aload_n 0, 1) := by decide +kernel
theorem dX3_placeOf_20 : decode cX3_placeOf 20 = .ok (.getfield 9, 3) := by decide +kernel
theorem dX3_placeOf_23 : decode cX3_placeOf 23 = .ok (.iload 7, 2) := by decide +kernel
theorem dX3_placeOf_25 : decode cX3_placeOf 25 = .ok (.iaload, 1) := by decide +kernel
theorem dX3_placeOf_26 : decode cX3_placeOf 26 = .ok (.i2l, 1) := by decide +kernel
theorem dX3_placeOf_27 : decode cX3_placeOf 27 = .ok (.lmul, 1) := by decide +kernel
theorem dX3_placeOf_28 : decode cX3_placeOf 28 = .ok (.lstore_n 3, 1) := by decide +kernel
theorem dX3_placeOf_29 : decode cX3_placeOf 29 = .ok (.lload 5, 2) := by decide +kernel
theorem dX3_placeOf_31 : decode cX3_placeOf 31 = .ok (.aload_n 0, 1) := by decide +kernel
theorem dX3_placeOf_32 : decode cX3_placeOf 32 = .ok (.getfield 15, 3) := by decide +kernel
theorem dX3_placeOf_35 : decode cX3_placeOf 35 = .ok (.iload 7, 2) := by decide +kernel
theorem dX3_placeOf_37 : decode cX3_placeOf 37 = .ok (.iaload, 1) := by decide +kernel
theorem dX3_placeOf_38 : decode cX3_placeOf 38 = .ok (.i2l, 1) := by decide +kernel
theorem dX3_placeOf_39 : decode cX3_placeOf 39 = .ok (.lmul, 1) := by decide +kernel
theorem dX3_placeOf_40 : decode cX3_placeOf 40 = .ok (.lstore 5, 2) := by decide +kernel
theorem dX3_placeOf_42 : decode cX3_placeOf 42 = .ok (.iinc 7 1, 3) := by decide +kernel
theorem dX3_placeOf_45 : decode cX3_placeOf 45 = .ok (.goto (-36), 3) := by decide +kernel
theorem dX3_placeOf_48 : decode cX3_placeOf 48 = .ok (.lload 5, 2) := by decide +kernel
theorem dX3_placeOf_50 : decode cX3_placeOf 50 = .ok (.lconst 0, 1) := by decide +kernel
theorem dX3_placeOf_51 : decode cX3_placeOf 51 = .ok (.lcmp, 1) := by decide +kernel
theorem dX3_placeOf_52 : decode cX3_placeOf 52 = .ok (.ifCond .eq 7, 3) := by decide +kernel
theorem dX3_placeOf_55 : decode cX3_placeOf 55 = .ok (.iload_n 2, 1) := by decide +kernel
theorem dX3_placeOf_56 : decode cX3_placeOf 56 = .ok (.ifCond .ne 5, 3) := by decide +kernel
theorem dX3_placeOf_59 : decode cX3_placeOf 59 = .ok (.iconst 0, 1) := by decide +kernel
theorem dX3_placeOf_60 : decode cX3_placeOf 60 = .ok (.ireturn, 1) := by decide +kernel
theorem dX3_placeOf_61 : decode cX3_placeOf 61 = .ok (.lload_n 3, 1) := by decide +kernel
theorem dX3_placeOf_62 : decode cX3_placeOf 62 = .ok (.lload 5, 2) := by decide +kernel
theorem dX3_placeOf_64 : decode cX3_placeOf 64 = .ok (.ldiv, 1) := by decide +kernel
theorem dX3_placeOf_65 : decode cX3_placeOf 65 = .ok (.iload_n 2, 1) := by decide +kernel
theorem dX3_placeOf_66 : decode cX3_placeOf 66 = .ok (.i2l, 1) := by decide +kernel
theorem dX3_placeOf_67 : decode cX3_placeOf 67 = .ok (.lrem, 1) := by decide +kernel
theorem dX3_placeOf_68 : decode cX3_placeOf 68 = .ok (.l2i, 1) := by decide +kernel
theorem dX3_placeOf_69 : decode cX3_placeOf 69 = .ok (.ireturn, 1) := by decide +kernel
theorem dX4_init_0 : decode cX4_init 0 = .ok (.aload_n 0, 1) := by decide +kernel
theorem dX4_init_1 : decode cX4_init 1 = .ok (.invokespecial 3, 3) := by decide +kernel
theorem dX4_init_4 : decode cX4_init 4 = .ok (.aload_n 0, 1) := by decide +kernel
theorem dX4_init_5 : decode cX4_init 5 = .ok (.iconst 5, 1) := by decide +kernel
theorem dX4_init_6 : decode cX4_init 6 = .ok (.anewarray 9, 3) := by decide +kernel
theorem dX4_init_9 : decode cX4_init 9 = .ok (.putfield 11, 3) := by decide +kernel
theorem dX4_init_12 : decode cX4_init 12 = .ok (.iconst 0, 1) := by decide +kernel
theorem dX4_init_13 : decode cX4_init 13 = .ok (.istore_n 1, 1) := by decide +kernel
theorem dX4_init_14 : decode cX4_init 14 = .ok (.iload_n 1, 1) := by decide +kernel
theorem dX4_init_15 : decode cX4_init 15 = .ok (.iconst 5, 1) := by decide +kernel
theorem dX4_init_16 : decode cX4_init 16 = .ok (.if_icmp .ge 22, 3) := by decide +kernel
theorem dX4_init_19 : decode cX4_init 19 = .ok (.aload_n 0, 1) := by decide +kernel
theorem dX4_init_20 : decode cX4_init 20 = .ok (.getfield 11, 3) := by decide +kernel
theorem dX4_init_23 : decode cX4_init 23 = .ok (.iload_n 1, 1) := by decide +kernel
theorem dX4_init_24 : decode cX4_init 24 = .ok (.new 9, 3) := by decide +kernel
theorem dX4_init_27 : decode cX4_init 27 = .ok (.dup, 1) := by decide +kernel
theorem dX4_init_28 : decode cX4_init 28 = .ok (.invokespecial 17, 3) := by decide +kernel
theorem dX4_init_31 : decode cX4_init 31 = .ok (.aastore, 1) := by decide +kernel
theorem dX4_init_32 : decode cX4_init 32 = .ok (.iinc 1 1, 3) := by decide +kernel
theorem dX4_init_35 : decode cX4_init 35 = .ok (.goto (-21), 3) := by decide +kernel
theorem dX4_init_38 : decode cX4_init 38 = .ok (.return_, 1) := by decide +kernel
theorem dX4_keep_0 : decode cX4_keep 0 = .ok (.aload_n 0, 1) := by decide +kernel
theorem dX4_keep_1 : decode cX4_keep 1 = .ok (.getfield 18, 3) := by decide +kernel
theorem dX4_keep_4 : decode cX4_keep 4 = .ok (.iconst 5, 1) := by decide +kernel
theorem dX4_keep_5 : decode cX4_keep 5 = .ok (.if_icmp .lt 7, 3) := by decide +kernel
theorem dX4_keep_8 : decode cX4_keep 8 = .ok (.aload_n 0, 1) := by decide +kernel
theorem dX4_keep_9 : decode cX4_keep 9 = .ok (.invokevirtual 22, 3) := by decide +kernel
theorem dX4_keep_12 : decode cX4_keep 12 = .ok (.aload_n 0, 1) := by decide +kernel
theorem dX4_keep_13 : decode cX4_keep 13 = .ok (.getfield 11, 3) := by decide +kernel
theorem dX4_keep_16 : decode cX4_keep 16 = .ok (.aload_n 0, 1) := by decide +kernel
theorem dX4_keep_17 : decode cX4_keep 17 = .ok (.getfield 18, 3) := by decide +kernel
theorem dX4_keep_20 : decode cX4_keep 20 = .ok (.aaload, 1) := by decide +kernel
theorem dX4_keep_21 : decode cX4_keep 21 = .ok (.aload_n 1, 1) := by decide +kernel
theorem dX4_keep_22 : decode cX4_keep 22 = .ok (.invokevirtual 25, 3) := by decide +kernel
theorem dX4_keep_25 : decode cX4_keep 25 = .ok (.aload_n 0, 1) := by decide +kernel
theorem dX4_keep_26 : decode cX4_keep 26 = .ok (.dup, 1) := by decide +kernel
theorem dX4_keep_27 : decode cX4_keep 27 = .ok (.getfield 18, 3) := by decide +kernel
theorem dX4_keep_30 : decode cX4_keep 30 = .ok (.iconst 1, 1) := by decide +kernel
theorem dX4_keep_31 : decode cX4_keep 31 = .ok (.iadd, 1) := by decide +kernel
theorem dX4_keep_32 : decode cX4_keep 32 = .ok (.putfield 18, 3) := by decide +kernel
theorem dX4_keep_35 : decode cX4_keep 35 = .ok (.return_, 1) := by decide +kernel
theorem dX4_dropOldest_0 : decode cX4_dropOldest 0 = .ok (.aload_n 0, 1) := by decide +kernel
theorem dX4_dropOldest_1 : decode cX4_dropOldest 1 = .ok (.getfield 11, 3) := by decide +kernel
theorem dX4_dropOldest_4 : decode cX4_dropOldest 4 = .ok (.iconst 0, 1) := by decide +kernel
theorem dX4_dropOldest_5 : decode cX4_dropOldest 5 = .ok (.aaload, 1) := by decide +kernel
theorem dX4_dropOldest_6 : decode cX4_dropOldest 6 = .ok (.astore_n 1, 1) := by decide +kernel
theorem dX4_dropOldest_7 : decode cX4_dropOldest 7 = .ok (.iconst 1, 1) := by decide +kernel
theorem dX4_dropOldest_8 : decode cX4_dropOldest 8 = .ok (.istore_n 2, 1) := by decide +kernel
theorem dX4_dropOldest_9 : decode cX4_dropOldest 9 = .ok (.iload_n 2, 1) := by decide +kernel
theorem dX4_dropOldest_10 : decode cX4_dropOldest 10 = .ok (.iconst 5, 1) := by decide +kernel
theorem dX4_dropOldest_11 : decode cX4_dropOldest 11 = .ok (.if_icmp .ge 23, 3) := by decide +kernel
theorem dX4_dropOldest_14 : decode cX4_dropOldest 14 = .ok (.aload_n 0, 1) := by decide +kernel
theorem dX4_dropOldest_15 : decode cX4_dropOldest 15 = .ok (.getfield 11, 3) := by decide +kernel
theorem dX4_dropOldest_18 : decode cX4_dropOldest 18 = .ok (.iload_n 2, 1) := by decide +kernel
theorem dX4_dropOldest_19 : decode cX4_dropOldest 19 = .ok (.iconst 1, 1) := by decide +kernel
theorem dX4_dropOldest_20 : decode cX4_dropOldest 20 = .ok (.isub, 1) := by decide +kernel
theorem dX4_dropOldest_21 : decode cX4_dropOldest 21 = .ok (.aload_n 0, 1) := by decide +kernel
theorem dX4_dropOldest_22 : decode cX4_dropOldest 22 = .ok (.getfield 11, 3) := by decide +kernel
theorem dX4_dropOldest_25 : decode cX4_dropOldest 25 = .ok (.iload_n 2, 1) := by decide +kernel
theorem dX4_dropOldest_26 : decode cX4_dropOldest 26 = .ok (.aaload, 1) := by decide +kernel
theorem dX4_dropOldest_27 : decode cX4_dropOldest 27 = .ok (.aastore, 1) := by decide +kernel
theorem dX4_dropOldest_28 : decode cX4_dropOldest 28 = .ok (.iinc 2 1, 3) := by decide +kernel
theorem dX4_dropOldest_31 : decode cX4_dropOldest 31 = .ok (.goto (-22), 3) := by decide +kernel
theorem dX4_dropOldest_34 : decode cX4_dropOldest 34 = .ok (.aload_n 0, 1) := by decide +kernel
theorem dX4_dropOldest_35 : decode cX4_dropOldest 35 = .ok (.getfield 11, 3) := by decide +kernel
theorem dX4_dropOldest_38 : decode cX4_dropOldest 38 = .ok (.iconst 4, 1) := by decide +kernel
theorem dX4_dropOldest_39 : decode cX4_dropOldest 39 = .ok (.aload_n 1, 1) := by decide +kernel
theorem dX4_dropOldest_40 : decode cX4_dropOldest 40 = .ok (.aastore, 1) := by decide +kernel
theorem dX4_dropOldest_41 : decode cX4_dropOldest 41 = .ok (.aload_n 0, 1) := by decide +kernel
theorem dX4_dropOldest_42 : decode cX4_dropOldest 42 = .ok (.iconst 4, 1) := by decide +kernel
theorem dX4_dropOldest_43 : decode cX4_dropOldest 43 = .ok (.putfield 18, 3) := by decide +kernel
theorem dX4_dropOldest_46 : decode cX4_dropOldest 46 = .ok (.return_, 1) := by decide +kernel
theorem dX4_restoreInto_0 : decode cX4_restoreInto 0 = .ok (.aload_n 0, 1) := by decide +kernel
theorem dX4_restoreInto_1 : decode cX4_restoreInto 1 = .ok (.getfield 18, 3) := by decide +kernel
theorem dX4_restoreInto_4 : decode cX4_restoreInto 4 = .ok (.ifCond .le 26, 3) := by decide +kernel
theorem dX4_restoreInto_7 : decode cX4_restoreInto 7 = .ok (.aload_n 0, 1) := by decide +kernel
theorem dX4_restoreInto_8 : decode cX4_restoreInto 8 = .ok (.dup, 1) := by decide +kernel
theorem dX4_restoreInto_9 : decode cX4_restoreInto 9 = .ok (.getfield 18, 3) := by decide +kernel
theorem dX4_restoreInto_12 : decode cX4_restoreInto 12 = .ok (.iconst 1, 1) := by decide +kernel
theorem dX4_restoreInto_13 : decode cX4_restoreInto 13 = .ok (.isub, 1) := by decide +kernel
theorem dX4_restoreInto_14 : decode cX4_restoreInto 14 = .ok (.putfield 18, 3) := by decide +kernel
theorem dX4_restoreInto_17 : decode cX4_restoreInto 17 = .ok (.aload_n 1, 1) := by decide +kernel
theorem dX4_restoreInto_18 : decode cX4_restoreInto 18 = .ok (.aload_n 0, 1) := by decide +kernel
theorem dX4_restoreInto_19 : decode cX4_restoreInto 19 = .ok (.getfield 11, 3) := by decide +kernel
theorem dX4_restoreInto_22 : decode cX4_restoreInto 22 = .ok (.aload_n 0, 1) := by decide +kernel
theorem dX4_restoreInto_23 : decode cX4_restoreInto 23 = .ok (.getfield 18, 3) := by decide +kernel
theorem dX4_restoreInto_26 : decode cX4_restoreInto 26 = .ok (.aaload, 1) := by decide +kernel
theorem dX4_restoreInto_27 : decode cX4_restoreInto 27 = .ok (.invokevirtual 25, 3) := by decide +kernel
theorem dX4_restoreInto_30 : decode cX4_restoreInto 30 = .ok (.return_, 1) := by decide +kernel
theorem dX5_init_0 : decode cX5_init 0 = .ok (.aload_n 0, 1) := by decide +kernel
theorem dX5_init_1 : decode cX5_init 1 = .ok (.invokespecial 3, 3) := by decide +kernel
theorem dX5_init_4 : decode cX5_init 4 = .ok (.aload_n 0, 1) := by decide +kernel
theorem dX5_init_5 : decode cX5_init 5 = .ok (.bipush 60, 2) := by decide +kernel
theorem dX5_init_7 : decode cX5_init 7 = .ok (.newarray .int, 2) := by decide +kernel
theorem dX5_init_9 : decode cX5_init 9 = .ok (.putfield 9, 3) := by decide +kernel
theorem dX5_init_12 : decode cX5_init 12 = .ok (.aload_n 0, 1) := by decide +kernel
theorem dX5_init_13 : decode cX5_init 13 = .ok (.bipush 60, 2) := by decide +kernel
theorem dX5_init_15 : decode cX5_init 15 = .ok (.newarray .int, 2) := by decide +kernel
theorem dX5_init_17 : decode cX5_init 17 = .ok (.putfield 15, 3) := by decide +kernel
theorem dX5_init_20 : decode cX5_init 20 = .ok (.aload_n 0, 1) := by decide +kernel
theorem dX5_init_21 : decode cX5_init 21 = .ok (.bipush 60, 2) := by decide +kernel
theorem dX5_init_23 : decode cX5_init 23 = .ok (.newarray .int, 2) := by decide +kernel
theorem dX5_init_25 : decode cX5_init 25 = .ok (.putfield 18, 3) := by decide +kernel
theorem dX5_init_28 : decode cX5_init 28 = .ok (.return_, 1) := by decide +kernel
theorem dX5_copyFrom_0 : decode cX5_copyFrom 0 = .ok (.aload_n 1, 1) := by decide +kernel
theorem dX5_copyFrom_1 : decode cX5_copyFrom 1 = .ok (.getfield 9, 3) := by decide +kernel
theorem dX5_copyFrom_4 : decode cX5_copyFrom 4 = .ok (.aload_n 0, 1) := by decide +kernel
theorem dX5_copyFrom_5 : decode cX5_copyFrom 5 = .ok (.getfield 9, 3) := by decide +kernel
theorem dX5_copyFrom_8 : decode cX5_copyFrom 8 = .ok (.invokestatic 21, 3) := by decide +kernel
theorem dX5_copyFrom_11 : decode cX5_copyFrom 11 = .ok (.aload_n 1, 1) := by decide +kernel
theorem dX5_copyFrom_12 : decode cX5_copyFrom 12 = .ok (.getfield 15, 3) := by decide +kernel
theorem dX5_copyFrom_15 : decode cX5_copyFrom 15 = .ok (.aload_n 0, 1) := by decide +kernel
theorem dX5_copyFrom_16 : decode cX5_copyFrom 16 = .ok (.getfield 15, 3) := by decide +kernel
theorem dX5_copyFrom_19 : decode cX5_copyFrom 19 = .ok (.invokestatic 21, 3) := by decide +kernel
theorem dX5_copyFrom_22 : decode cX5_copyFrom 22 = .ok (.aload_n 1, 1) := by decide +kernel
theorem dX5_copyFrom_23 : decode cX5_copyFrom 23 = .ok (.getfield 18, 3) := by decide +kernel
theorem dX5_copyFrom_26 : decode cX5_copyFrom 26 = .ok (.aload_n 0, 1) := by decide +kernel
theorem dX5_copyFrom_27 : decode cX5_copyFrom 27 = .ok (.getfield 18, 3) := by decide +kernel
theorem dX5_copyFrom_30 : decode cX5_copyFrom 30 = .ok (.invokestatic 21, 3) := by decide +kernel
theorem dX5_copyFrom_33 : decode cX5_copyFrom 33 = .ok (.aload_n 0, 1) := by decide +kernel
theorem dX5_copyFrom_34 : decode cX5_copyFrom 34 = .ok (.aload_n 1, 1) := by decide +kernel
theorem dX5_copyFrom_35 : decode cX5_copyFrom 35 = .ok (.getfield 25, 3) := by decide +kernel
theorem dX5_copyFrom_38 : decode cX5_copyFrom 38 = .ok (.putfield 25, 3) := by decide +kernel
theorem dX5_copyFrom_41 : decode cX5_copyFrom 41 = .ok (.return_, 1) := by decide +kernel
theorem dX5_has_0 : decode cX5_has 0 = .ok (.iload_n 1, 1) := by decide +kernel
theorem dX5_has_1 : decode cX5_has 1 = .ok (.ifCond .lt 15, 3) := by decide +kernel
theorem dX5_has_4 : decode cX5_has 4 = .ok (.iload_n 1, 1) := by decide +kernel
theorem dX5_has_5 : decode cX5_has 5 = .ok (.aload_n 0, 1) := by decide +kernel
theorem dX5_has_6 : decode cX5_has 6 = .ok (.getfield 25, 3) := by decide +kernel
theorem dX5_has_9 : decode cX5_has 9 = .ok (.if_icmp .ge 7, 3) := by decide +kernel
theorem dX5_has_12 : decode cX5_has 12 = .ok (.iconst 1, 1) := by decide +kernel
theorem dX5_has_13 : decode cX5_has 13 = .ok (.goto 4, 3) := by decide +kernel
theorem dX5_has_16 : decode cX5_has 16 = .ok (.iconst 0, 1) := by decide +kernel
theorem dX5_has_17 : decode cX5_has 17 = .ok (.ireturn, 1) := by decide +kernel
theorem dX5_append_0 : decode cX5_append 0 = .ok (.aload_n 0, 1) := by decide +kernel
theorem dX5_append_1 : decode cX5_append 1 = .ok (.getfield 25, 3) := by decide +kernel
theorem dX5_append_4 : decode cX5_append 4 = .ok (.bipush 60, 2) := by decide +kernel
theorem dX5_append_6 : decode cX5_append 6 = .ok (.if_icmp .lt 7, 3) := by decide +kernel
theorem dX5_append_9 : decode cX5_append 9 = .ok (.aload_n 0, 1) := by decide +kernel
theorem dX5_append_10 : decode cX5_append 10 = .ok (.invokevirtual 29, 3) := by decide +kernel
theorem dX5_append_13 : decode cX5_append 13 = .ok (.aload_n 0, 1) := by decide +kernel
theorem dX5_append_14 : decode cX5_append 14 = .ok (.getfield 9, 3) := by decide +kernel
theorem dX5_append_17 : decode cX5_append 17 = .ok (.aload_n 0, 1) := by decide +kernel
theorem dX5_append_18 : decode cX5_append 18 = .ok (.getfield 25, 3) := by decide +kernel
theorem dX5_append_21 : decode cX5_append 21 = .ok (.iload_n 1, 1) := by decide +kernel
theorem dX5_append_22 : decode cX5_append 22 = .ok (.iastore, 1) := by decide +kernel
theorem dX5_append_23 : decode cX5_append 23 = .ok (.aload_n 0, 1) := by decide +kernel
theorem dX5_append_24 : decode cX5_append 24 = .ok (.getfield 15, 3) := by decide +kernel
theorem dX5_append_27 : decode cX5_append 27 = .ok (.aload_n 0, 1) := by decide +kernel
theorem dX5_append_28 : decode cX5_append 28 = .ok (.getfield 25, 3) := by decide +kernel
theorem dX5_append_31 : decode cX5_append 31 = .ok (.iload_n 2, 1) := by decide +kernel
theorem dX5_append_32 : decode cX5_append 32 = .ok (.iastore, 1) := by decide +kernel
theorem dX5_append_33 : decode cX5_append 33 = .ok (.aload_n 0, 1) := by decide +kernel
theorem dX5_append_34 : decode cX5_append 34 = .ok (.getfield 18, 3) := by decide +kernel
theorem dX5_append_37 : decode cX5_append 37 = .ok (.aload_n 0, 1) := by decide +kernel
theorem dX5_append_38 : decode cX5_append 38 = .ok (.getfield 25, 3) := by decide +kernel
theorem dX5_append_41 : decode cX5_append 41 = .ok (.iload_n 3, 1) := by decide +kernel
theorem dX5_append_42 : decode cX5_append 42 = .ok (.iastore, 1) := by decide +kernel
theorem dX5_append_43 : decode cX5_append 43 = .ok (.aload_n 0, 1) := by decide +kernel
theorem dX5_append_44 : decode cX5_append 44 = .ok (.dup, 1) := by decide +kernel
theorem dX5_append_45 : decode cX5_append 45 = .ok (.getfield 25, 3) := by decide +kernel
theorem dX5_append_48 : decode cX5_append 48 = .ok (.iconst 1, 1) := by decide +kernel
theorem dX5_append_49 : decode cX5_append 49 = .ok (.iadd, 1) := by decide +kernel
theorem dX5_append_50 : decode cX5_append 50 = .ok (.putfield 25, 3) := by decide +kernel
theorem dX5_append_53 : decode cX5_append 53 = .ok (.return_, 1) := by decide +kernel
theorem dX5_removeOldest_0 : decode cX5_removeOldest 0 = .ok (.aload_n 0, 1) := by decide +kernel
theorem dX5_removeOldest_1 : decode cX5_removeOldest 1 = .ok (.bipush 59, 2) := by decide +kernel
theorem dX5_removeOldest_3 : decode cX5_removeOldest 3 = .ok (.putfield 25, 3) := by decide +kernel
theorem dX5_removeOldest_6 : decode cX5_removeOldest 6 = .ok (.aload_n 0, 1) := by decide +kernel
theorem dX5_removeOldest_7 : decode cX5_removeOldest 7 = .ok (.getfield 9, 3) := by decide +kernel
theorem dX5_removeOldest_10 : decode cX5_removeOldest 10 = .ok (.iconst 1, 1) := by decide +kernel
theorem dX5_removeOldest_11 : decode cX5_removeOldest 11 = .ok (.aload_n 0, 1) := by decide +kernel
theorem dX5_removeOldest_12 : decode cX5_removeOldest 12 = .ok (.getfield 9, 3) := by decide +kernel
theorem dX5_removeOldest_15 : decode cX5_removeOldest 15 = .ok (.iconst 0, 1) := by decide +kernel
theorem dX5_removeOldest_16 : decode cX5_removeOldest 16 = .ok (.aload_n 0, 1) := by decide +kernel
theorem dX5_removeOldest_17 : decode cX5_removeOldest 17 = .ok (.getfield 25, 3) := by decide +kernel
theorem dX5_removeOldest_20 : decode cX5_removeOldest 20 = .ok (.invokestatic 32, 3) := by decide +kernel
theorem dX5_removeOldest_23 : decode cX5_removeOldest 23 = .ok (.aload_n 0, 1) := by decide +kernel
theorem dX5_removeOldest_24 : decode cX5_removeOldest 24 = .ok (.getfield 15, 3) := by decide +kernel
theorem dX5_removeOldest_27 : decode cX5_removeOldest 27 = .ok (.iconst 1, 1) := by decide +kernel
theorem dX5_removeOldest_28 : decode cX5_removeOldest 28 = .ok (.aload_n 0, 1) := by decide +kernel
theorem dX5_removeOldest_29 : decode cX5_removeOldest 29 = .ok (.getfield 15, 3) := by decide +kernel
theorem dX5_removeOldest_32 : decode cX5_removeOldest 32 = .ok (.iconst 0, 1) := by decide +kernel
theorem dX5_removeOldest_33 : decode cX5_removeOldest 33 = .ok (.aload_n 0, 1) := by decide +kernel
theorem dX5_removeOldest_34 : decode cX5_removeOldest 34 = .ok (.getfield 25, 3) := by decide +kernel
theorem dX5_removeOldest_37 : decode cX5_removeOldest 37 = .ok (.invokestatic 32, 3) := by decide +kernel
theorem dX5_removeOldest_40 : decode cX5_removeOldest 40 = .ok (.aload_n 0, 1) := by decide +kernel
theorem dX5_removeOldest_41 : decode cX5_removeOldest 41 = .ok (.getfield 18, 3) := by decide +kernel
theorem dX5_removeOldest_44 : decode cX5_removeOldest 44 = .ok (.iconst 1, 1) := by decide +kernel
theorem dX5_removeOldest_45 : decode cX5_removeOldest 45 = .ok (.aload_n 0, 1) := by decide +kernel
theorem dX5_removeOldest_46 : decode cX5_removeOldest 46 = .ok (.getfield 18, 3) := by decide +kernel
theorem dX5_removeOldest_49 : decode cX5_removeOldest 49 = .ok (.iconst 0, 1) := by decide +kernel
theorem dX5_removeOldest_50 : decode cX5_removeOldest 50 = .ok (.aload_n 0, 1) := by decide +kernel
theorem dX5_removeOldest_51 : decode cX5_removeOldest 51 = .ok (.getfield 25, 3) := by decide +kernel
theorem dX5_removeOldest_54 : decode cX5_removeOldest 54 = .ok (.invokestatic 32, 3) := by decide +kernel
theorem dX5_removeOldest_57 : decode cX5_removeOldest 57 = .ok (.return_, 1) := by decide +kernel
theorem dX5_ticksBetween_0 : decode cX5_ticksBetween 0 = .ok (.aload_n 0, 1) := by decide +kernel
theorem dX5_ticksBetween_1 : decode cX5_ticksBetween 1 = .ok (.iload_n 1, 1) := by decide +kernel
theorem dX5_ticksBetween_2 : decode cX5_ticksBetween 2 = .ok (.invokevirtual 38, 3) := by decide +kernel
theorem dX5_ticksBetween_5 : decode cX5_ticksBetween 5 = .ok (.ifCond .eq 27, 3) := by decide +kernel
theorem dX5_ticksBetween_8 : decode cX5_ticksBetween 8 = .ok (.aload_n 0, 1) := by decide +kernel
theorem dX5_ticksBetween_9 : decode cX5_ticksBetween 9 = .ok (.iload_n 2, 1) := by decide +kernel
theorem dX5_ticksBetween_10 : decode cX5_ticksBetween 10 = .ok (.invokevirtual 38, 3) := by decide +kernel
theorem dX5_ticksBetween_13 : decode cX5_ticksBetween 13 = .ok (.ifCond .eq 19, 3) := by decide +kernel
theorem dX5_ticksBetween_16 : decode cX5_ticksBetween 16 = .ok (.aload_n 0, 1) := by decide +kernel
theorem dX5_ticksBetween_17 : decode cX5_ticksBetween 17 = .ok (.getfield 9, 3) := by decide +kernel
theorem dX5_ticksBetween_20 : decode cX5_ticksBetween 20 = .ok (.iload_n 2, 1) := by decide +kernel
theorem dX5_ticksBetween_21 : decode cX5_ticksBetween 21 = .ok (.iaload, 1) := by decide +kernel
theorem dX5_ticksBetween_22 : decode cX5_ticksBetween 22 = .ok (.aload_n 0, 1) := by decide +kernel
theorem dX5_ticksBetween_23 : decode cX5_ticksBetween 23 = .ok (.getfield 9, 3) := by decide +kernel
theorem dX5_ticksBetween_26 : decode cX5_ticksBetween 26 = .ok (.iload_n 1, 1) := by decide +kernel
theorem dX5_ticksBetween_27 : decode cX5_ticksBetween 27 = .ok (.iaload, 1) := by decide +kernel
theorem dX5_ticksBetween_28 : decode cX5_ticksBetween 28 = .ok (.isub, 1) := by decide +kernel
theorem dX5_ticksBetween_29 : decode cX5_ticksBetween 29 = .ok (.goto 4, 3) := by decide +kernel
theorem dX5_ticksBetween_32 : decode cX5_ticksBetween 32 = .ok (.iconst 0, 1) := by decide +kernel
theorem dX5_ticksBetween_33 : decode cX5_ticksBetween 33 = .ok (.ireturn, 1) := by decide +kernel
theorem dX5_widestGap_0 : decode cX5_widestGap 0 = .ok (.iconst 0, 1) := by decide +kernel
theorem dX5_widestGap_1 : decode cX5_widestGap 1 = .ok (.istore_n 1, 1) := by decide +kernel
theorem dX5_widestGap_2 : decode cX5_widestGap 2 = .ok (.iconst 1, 1) := by decide +kernel
theorem dX5_widestGap_3 : decode cX5_widestGap 3 = .ok (.istore_n 2, 1) := by decide +kernel
theorem dX5_widestGap_4 : decode cX5_widestGap 4 = .ok (.iload_n 2, 1) := by decide +kernel
theorem dX5_widestGap_5 : decode cX5_widestGap 5 = .ok (.aload_n 0, 1) := by decide +kernel
theorem dX5_widestGap_6 : decode cX5_widestGap 6 = .ok (.getfield 25, 3) := by decide +kernel
theorem dX5_widestGap_9 : decode cX5_widestGap 9 = .ok (.if_icmp .ge 22, 3) := by decide +kernel
theorem dX5_widestGap_12 : decode cX5_widestGap 12 = .ok (.iload_n 1, 1) := by decide +kernel
theorem dX5_widestGap_13 : decode cX5_widestGap 13 = .ok (.aload_n 0, 1) := by decide +kernel
theorem dX5_widestGap_14 : decode cX5_widestGap 14 = .ok (.iload_n 2, 1) := by decide +kernel
theorem dX5_widestGap_15 : decode cX5_widestGap 15 = .ok (.iconst 1, 1) := by decide +kernel
theorem dX5_widestGap_16 : decode cX5_widestGap 16 = .ok (.isub, 1) := by decide +kernel
theorem dX5_widestGap_17 : decode cX5_widestGap 17 = .ok (.iload_n 2, 1) := by decide +kernel
theorem dX5_widestGap_18 : decode cX5_widestGap 18 = .ok (.invokevirtual 42, 3) := by decide +kernel
theorem dX5_widestGap_21 : decode cX5_widestGap 21 = .ok (.invokestatic 46, 3) := by decide +kernel
theorem dX5_widestGap_24 : decode cX5_widestGap 24 = .ok (.istore_n 1, 1) := by decide +kernel
theorem dX5_widestGap_25 : decode cX5_widestGap 25 = .ok (.iinc 2 1, 3) := by decide +kernel
theorem dX5_widestGap_28 : decode cX5_widestGap 28 = .ok (.goto (-24), 3) := by decide +kernel
theorem dX5_widestGap_31 : decode cX5_widestGap 31 = .ok (.iload_n 1, 1) := by decide +kernel
theorem dX5_widestGap_32 : decode cX5_widestGap 32 = .ok (.ireturn, 1) := by decide +kernel
theorem dX5_beginsStorm_0 : decode cX5_beginsStorm 0 = .ok (.iload_n 1, 1) := by decide +kernel
theorem dX5_beginsStorm_1 : decode cX5_beginsStorm 1 = .ok (.ifCond .eq 15, 3) := by decide +kernel
theorem dX5_beginsStorm_4 : decode cX5_beginsStorm 4 = .ok (.aload_n 0, 1) := by decide +kernel
theorem dX5_beginsStorm_5 : decode cX5_beginsStorm 5 = .ok (.iload_n 1, 1) := by decide +kernel
theorem dX5_beginsStorm_6 : decode cX5_beginsStorm 6 = .ok (.iconst 1, 1) := by decide +kernel
theorem dX5_beginsStorm_7 : decode cX5_beginsStorm 7 = .ok (.isub, 1) := by decide +kernel
theorem dX5_beginsStorm_8 : decode cX5_beginsStorm 8 = .ok (.iload_n 1, 1) := by decide +kernel
theorem dX5_beginsStorm_9 : decode cX5_beginsStorm 9 = .ok (.invokevirtual 42, 3) := by decide +kernel
theorem dX5_beginsStorm_12 : decode cX5_beginsStorm 12 = .ok (.iload_n 2, 1) := by decide +kernel
theorem dX5_beginsStorm_13 : decode cX5_beginsStorm 13 = .ok (.if_icmp .le 7, 3) := by decide +kernel
theorem dX5_beginsStorm_16 : decode cX5_beginsStorm 16 = .ok (.iconst 1, 1) := by decide +kernel
theorem dX5_beginsStorm_17 : decode cX5_beginsStorm 17 = .ok (.goto 4, 3) := by decide +kernel
theorem dX5_beginsStorm_20 : decode cX5_beginsStorm 20 = .ok (.iconst 0, 1) := by decide +kernel
theorem dX5_beginsStorm_21 : decode cX5_beginsStorm 21 = .ok (.ireturn, 1) := by decide +kernel
theorem dX5_countStorms_0 : decode cX5_countStorms 0 = .ok (.iconst 0, 1) := by decide +kernel
theorem dX5_countStorms_1 : decode cX5_countStorms 1 = .ok (.istore_n 2, 1) := by decide +kernel
theorem dX5_countStorms_2 : decode cX5_countStorms 2 = .ok (.iconst 0, 1) := by decide +kernel
theorem dX5_countStorms_3 : decode cX5_countStorms 3 = .ok (.istore_n 3, 1) := by decide +kernel
theorem dX5_countStorms_4 : decode cX5_countStorms 4 = .ok (.iload_n 3, 1) := by decide +kernel
theorem dX5_countStorms_5 : decode cX5_countStorms 5 = .ok (.aload_n 0, 1) := by decide +kernel
theorem dX5_countStorms_6 : decode cX5_countStorms 6 = .ok (.getfield 25, 3) := by decide +kernel
theorem dX5_countStorms_9 : decode cX5_countStorms 9 = .ok (.if_icmp .ge 21, 3) := by decide +kernel
theorem dX5_countStorms_12 : decode cX5_countStorms 12 = .ok (.aload_n 0, 1) := by decide +kernel
theorem dX5_countStorms_13 : decode cX5_countStorms 13 = .ok (.iload_n 3, 1) := by decide +kernel
theorem dX5_countStorms_14 : decode cX5_countStorms 14 = .ok (.iload_n 1, 1) := by decide +kernel
theorem dX5_countStorms_15 : decode cX5_countStorms 15 = .ok (.invokevirtual 51, 3) := by decide +kernel
theorem dX5_countStorms_18 : decode cX5_countStorms 18 = .ok (.ifCond .eq 6, 3) := by decide +kernel
theorem dX5_countStorms_21 : decode cX5_countStorms 21 = .ok (.iinc 2 1, 3) := by decide +kernel
theorem dX5_countStorms_24 : decode cX5_countStorms 24 = .ok (.iinc 3 1, 3) := by decide +kernel
theorem dX5_countStorms_27 : decode cX5_countStorms 27 = .ok (.goto (-23), 3) := by decide +kernel
theorem dX5_countStorms_30 : decode cX5_countStorms 30 = .ok (.iload_n 2, 1) := by decide +kernel
theorem dX5_countStorms_31 : decode cX5_countStorms 31 = .ok (.ireturn, 1) := by decide +kernel
theorem dX5_firstOfStorm_0 : decode cX5_firstOfStorm 0 = .ok (.iconst 0, 1) := by decide +kernel
theorem dX5_firstOfStorm_1 : decode cX5_firstOfStorm 1 = .ok (.istore_n 3, 1) := by decide +kernel
theorem dX5_firstOfStorm_2 : decode cX5_firstOfStorm 2 = .ok (.iconst 0, 1) := by decide +kernel
theorem dX5_firstOfStorm_3 : decode cX5_firstOfStorm 3 = .ok (.istore 4, 2) := by decide +kernel
theorem dX5_firstOfStorm_5 : decode cX5_firstOfStorm 5 = .ok (.iload 4, 2) := by decide +kernel
theorem dX5_firstOfStorm_7 : decode cX5_firstOfStorm 7 = .ok (.aload_n 0, 1) := by decide +kernel
theorem dX5_firstOfStorm_8 : decode cX5_firstOfStorm 8 = .ok (.getfield 25, 3) := by decide +kernel
theorem dX5_firstOfStorm_11 : decode cX5_firstOfStorm 11 = .ok (.if_icmp .ge 30, 3) := by decide +kernel
theorem dX5_firstOfStorm_14 : decode cX5_firstOfStorm 14 = .ok (.aload_n 0, 1) := by decide +kernel
theorem dX5_firstOfStorm_15 : decode cX5_firstOfStorm 15 = .ok (.iload 4, 2) := by decide +kernel
theorem dX5_firstOfStorm_17 : decode cX5_firstOfStorm 17 = .ok (.iload_n 2, 1) := by decide +kernel
theorem dX5_firstOfStorm_18 : decode cX5_firstOfStorm 18 = .ok (.invokevirtual 51, 3) := by decide +kernel
theorem dX5_firstOfStorm_21 : decode cX5_firstOfStorm 21 = .ok (.ifCond .eq 14, 3) := by decide +kernel
theorem dX5_firstOfStorm_24 : decode cX5_firstOfStorm 24 = .ok (.iload_n 3, 1) := by decide +kernel
theorem dX5_firstOfStorm_25 : decode cX5_firstOfStorm 25 = .ok (.iload_n 1, 1) := by decide +kernel
theorem dX5_firstOfStorm_26 : decode cX5_firstOfStorm 26 = .ok (.if_icmp .ne 6, 3) := by decide +kernel
theorem dX5_firstOfStorm_29 : decode cX5_firstOfStorm 29 = .ok (.iload 4, 2) := by decide +kernel
theorem dX5_firstOfStorm_31 : decode cX5_firstOfStorm 31 = .ok (.ireturn, 1) := by decide +kernel
theorem dX5_firstOfStorm_32 : decode cX5_firstOfStorm 32 = .ok (.iinc 3 1, 3) := by decide +kernel
theorem dX5_firstOfStorm_35 : decode cX5_firstOfStorm 35 = .ok (.iinc 4 1, 3) := by decide +kernel
theorem dX5_firstOfStorm_38 : decode cX5_firstOfStorm 38 = .ok (.goto (-33), 3) := by decide +kernel
theorem dX5_firstOfStorm_41 : decode cX5_firstOfStorm 41 = .ok (.iconst (-1), 1) := by decide +kernel
theorem dX5_firstOfStorm_42 : decode cX5_firstOfStorm 42 = .ok (.ireturn, 1) := by decide +kernel
theorem dX5_endOfStorm_0 : decode cX5_endOfStorm 0 = .ok (.iload_n 1, 1) := by decide +kernel
theorem dX5_endOfStorm_1 : decode cX5_endOfStorm 1 = .ok (.iconst 1, 1) := by decide +kernel
theorem dX5_endOfStorm_2 : decode cX5_endOfStorm 2 = .ok (.iadd, 1) := by decide +kernel
theorem dX5_endOfStorm_3 : decode cX5_endOfStorm 3 = .ok (.istore_n 3, 1) := by decide +kernel
theorem dX5_endOfStorm_4 : decode cX5_endOfStorm 4 = .ok (.iload_n 3, 1) := by decide +kernel
theorem dX5_endOfStorm_5 : decode cX5_endOfStorm 5 = .ok (.aload_n 0, 1) := by decide +kernel
theorem dX5_endOfStorm_6 : decode cX5_endOfStorm 6 = .ok (.getfield 25, 3) := by decide +kernel
theorem dX5_endOfStorm_9 : decode cX5_endOfStorm 9 = .ok (.if_icmp .ge 20, 3) := by decide +kernel
theorem dX5_endOfStorm_12 : decode cX5_endOfStorm 12 = .ok (.aload_n 0, 1) := by decide +kernel
theorem dX5_endOfStorm_13 : decode cX5_endOfStorm 13 = .ok (.iload_n 3, 1) := by decide +kernel
theorem dX5_endOfStorm_14 : decode cX5_endOfStorm 14 = .ok (.iload_n 2, 1) := by decide +kernel
theorem dX5_endOfStorm_15 : decode cX5_endOfStorm 15 = .ok (.invokevirtual 51, 3) := by decide +kernel
theorem dX5_endOfStorm_18 : decode cX5_endOfStorm 18 = .ok (.ifCond .eq 5, 3) := by decide +kernel
theorem dX5_endOfStorm_21 : decode cX5_endOfStorm 21 = .ok (.iload_n 3, 1) := by decide +kernel
theorem dX5_endOfStorm_22 : decode cX5_endOfStorm 22 = .ok (.ireturn, 1) := by decide +kernel
theorem dX5_endOfStorm_23 : decode cX5_endOfStorm 23 = .ok (.iinc 3 1, 3) := by decide +kernel
theorem dX5_endOfStorm_26 : decode cX5_endOfStorm 26 = .ok (.goto (-22), 3) := by decide +kernel
theorem dX5_endOfStorm_29 : decode cX5_endOfStorm 29 = .ok (.aload_n 0, 1) := by decide +kernel
theorem dX5_endOfStorm_30 : decode cX5_endOfStorm 30 = .ok (.getfield 25, 3) := by decide +kernel
theorem dX5_endOfStorm_33 : decode cX5_endOfStorm 33 = .ok (.ireturn, 1) := by decide +kernel
theorem dX5_lossBetweenTips_0 : decode cX5_lossBetweenTips 0 = .ok (.iconst 0, 1) := by decide +kernel
theorem dX5_lossBetweenTips_1 : decode cX5_lossBetweenTips 1 = .ok (.istore 4, 2) := by decide +kernel
theorem dX5_lossBetweenTips_3 : decode cX5_lossBetweenTips 3 = .ok (.iload_n 1, 1) := by decide +kernel
theorem dX5_lossBetweenTips_4 : decode cX5_lossBetweenTips 4 = .ok (.iconst 1, 1) := by decide +kernel
theorem dX5_lossBetweenTips_5 : decode cX5_lossBetweenTips 5 = .ok (.iadd, 1) := by decide +kernel
theorem dX5_lossBetweenTips_6 : decode cX5_lossBetweenTips 6 = .ok (.istore 5, 2) := by decide +kernel
theorem dX5_lossBetweenTips_8 : decode cX5_lossBetweenTips 8 = .ok (.iload 5, 2) := by decide +kernel
theorem dX5_lossBetweenTips_10 : decode cX5_lossBetweenTips 10 = .ok (.iload_n 2, 1) := by decide +kernel
theorem dX5_lossBetweenTips_11 : decode cX5_lossBetweenTips 11 = .ok (.if_icmp .ge 28, 3) := by decide +kernel
theorem dX5_lossBetweenTips_14 : decode cX5_lossBetweenTips 14 = .ok (.iload 4, 2) := by decide +kernel
theorem dX5_lossBetweenTips_16 : decode cX5_lossBetweenTips 16 = .ok (.iload_n 3, 1) := by decide +kernel
theorem dX5_lossBetweenTips_17 : decode cX5_lossBetweenTips 17 = .ok (.aload_n 0, 1) := by decide +kernel
theorem dX5_lossBetweenTips_18 : decode cX5_lossBetweenTips 18 = .ok (.iload 5, 2) := by decide +kernel
theorem dX5_lossBetweenTips_20 : decode cX5_lossBetweenTips 20 = .ok (.iconst 1, 1) := by decide +kernel
theorem dX5_lossBetweenTips_21 : decode cX5_lossBetweenTips 21 = .ok (.isub, 1) := by decide +kernel
theorem dX5_lossBetweenTips_22 : decode cX5_lossBetweenTips 22 = .ok (.iload 5, 2) := by decide +kernel
theorem dX5_lossBetweenTips_24 : decode cX5_lossBetweenTips 24 = .ok (.invokevirtual 42, 3) := by decide +kernel
theorem dX5_lossBetweenTips_27 : decode cX5_lossBetweenTips 27 = .ok (.invokestatic 55, 3) := by decide +kernel
theorem dX5_lossBetweenTips_30 : decode cX5_lossBetweenTips 30 = .ok (.iadd, 1) := by decide +kernel
theorem dX5_lossBetweenTips_31 : decode cX5_lossBetweenTips 31 = .ok (.istore 4, 2) := by decide +kernel
theorem dX5_lossBetweenTips_33 : decode cX5_lossBetweenTips 33 = .ok (.iinc 5 1, 3) := by decide +kernel
theorem dX5_lossBetweenTips_36 : decode cX5_lossBetweenTips 36 = .ok (.goto (-28), 3) := by decide +kernel
theorem dX5_lossBetweenTips_39 : decode cX5_lossBetweenTips 39 = .ok (.iload 4, 2) := by decide +kernel
theorem dX5_lossBetweenTips_41 : decode cX5_lossBetweenTips 41 = .ok (.ireturn, 1) := by decide +kernel
theorem dX5_peak_0 : decode cX5_peak 0 = .ok (.iconst 0, 1) := by decide +kernel
theorem dX5_peak_1 : decode cX5_peak 1 = .ok (.istore_n 3, 1) := by decide +kernel
theorem dX5_peak_2 : decode cX5_peak 2 = .ok (.iload_n 1, 1) := by decide +kernel
theorem dX5_peak_3 : decode cX5_peak 3 = .ok (.istore 4, 2) := by decide +kernel
theorem dX5_peak_5 : decode cX5_peak 5 = .ok (.iload_n 1, 1) := by decide +kernel
theorem dX5_peak_6 : decode cX5_peak 6 = .ok (.istore 5, 2) := by decide +kernel
theorem dX5_peak_8 : decode cX5_peak 8 = .ok (.iload 5, 2) := by decide +kernel
theorem dX5_peak_10 : decode cX5_peak 10 = .ok (.iload_n 2, 1) := by decide +kernel
theorem dX5_peak_11 : decode cX5_peak 11 = .ok (.if_icmp .ge 47, 3) := by decide +kernel
theorem dX5_peak_14 : decode cX5_peak 14 = .ok (.iload 4, 2) := by decide +kernel
theorem dX5_peak_16 : decode cX5_peak 16 = .ok (.iload 5, 2) := by decide +kernel
theorem dX5_peak_18 : decode cX5_peak 18 = .ok (.if_icmp .ge 22, 3) := by decide +kernel
theorem dX5_peak_21 : decode cX5_peak 21 = .ok (.aload_n 0, 1) := by decide +kernel
theorem dX5_peak_22 : decode cX5_peak 22 = .ok (.iload 4, 2) := by decide +kernel
theorem dX5_peak_24 : decode cX5_peak 24 = .ok (.iload 5, 2) := by decide +kernel
theorem dX5_peak_26 : decode cX5_peak 26 = .ok (.invokevirtual 42, 3) := by decide +kernel
theorem dX5_peak_29 : decode cX5_peak 29 = .ok (.bipush 30, 2) := by decide +kernel
theorem dX5_peak_31 : decode cX5_peak 31 = .ok (.if_icmp .lt 9, 3) := by decide +kernel
theorem dX5_peak_34 : decode cX5_peak 34 = .ok (.iinc 4 1, 3) := by decide +kernel
theorem dX5_peak_37 : decode cX5_peak 37 = .ok (.goto (-23), 3) := by decide +kernel
theorem dX5_peak_40 : decode cX5_peak 40 = .ok (.iload_n 3, 1) := by decide +kernel
theorem dX5_peak_41 : decode cX5_peak 41 = .ok (.iload 5, 2) := by decide +kernel
theorem dX5_peak_43 : decode cX5_peak 43 = .ok (.iload 4, 2) := by decide +kernel
theorem dX5_peak_45 : decode cX5_peak 45 = .ok (.isub, 1) := by decide +kernel
theorem dX5_peak_46 : decode cX5_peak 46 = .ok (.iconst 1, 1) := by decide +kernel
theorem dX5_peak_47 : decode cX5_peak 47 = .ok (.iadd, 1) := by decide +kernel
theorem dX5_peak_48 : decode cX5_peak 48 = .ok (.invokestatic 46, 3) := by decide +kernel
theorem dX5_peak_51 : decode cX5_peak 51 = .ok (.istore_n 3, 1) := by decide +kernel
theorem dX5_peak_52 : decode cX5_peak 52 = .ok (.iinc 5 1, 3) := by decide +kernel
theorem dX5_peak_55 : decode cX5_peak 55 = .ok (.goto (-47), 3) := by decide +kernel
theorem dX5_peak_58 : decode cX5_peak 58 = .ok (.iload_n 3, 1) := by decide +kernel
theorem dX5_peak_59 : decode cX5_peak 59 = .ok (.ireturn, 1) := by decide +kernel
theorem dX6_init_0 : decode cX6_init 0 = .ok (.aload_n 0, 1) := by decide +kernel
theorem dX6_init_1 : decode cX6_init 1 = .ok (.invokespecial 3, 3) := by decide +kernel
theorem dX6_init_4 : decode cX6_init 4 = .ok (.aload_n 0, 1) := by decide +kernel
theorem dX6_init_5 : decode cX6_init 5 = .ok (.sipush 1000, 3) := by decide +kernel
theorem dX6_init_8 : decode cX6_init 8 = .ok (.newarray .int, 2) := by decide +kernel
theorem dX6_init_10 : decode cX6_init 10 = .ok (.putfield 9, 3) := by decide +kernel
theorem dX6_init_13 : decode cX6_init 13 = .ok (.aload_n 0, 1) := by decide +kernel
theorem dX6_init_14 : decode cX6_init 14 = .ok (.sipush 1000, 3) := by decide +kernel
theorem dX6_init_17 : decode cX6_init 17 = .ok (.newarray .boolean, 2) := by decide +kernel
theorem dX6_init_19 : decode cX6_init 19 = .ok (.putfield 15, 3) := by decide +kernel
theorem dX6_init_22 : decode cX6_init 22 = .ok (.return_, 1) := by decide +kernel
theorem dX6_lookAhead_0 : decode cX6_lookAhead 0 = .ok (.aload_n 0, 1) := by decide +kernel
theorem dX6_lookAhead_1 : decode cX6_lookAhead 1 = .ok (.iload_n 2, 1) := by decide +kernel
theorem dX6_lookAhead_2 : decode cX6_lookAhead 2 = .ok (.sipush 1000, 3) := by decide +kernel
theorem dX6_lookAhead_5 : decode cX6_lookAhead 5 = .ok (.invokestatic 19, 3) := by decide +kernel
theorem dX6_lookAhead_8 : decode cX6_lookAhead 8 = .ok (.putfield 25, 3) := by decide +kernel
theorem dX6_lookAhead_11 : decode cX6_lookAhead 11 = .ok (.iconst 0, 1) := by decide +kernel
theorem dX6_lookAhead_12 : decode cX6_lookAhead 12 = .ok (.istore_n 3, 1) := by decide +kernel
theorem dX6_lookAhead_13 : decode cX6_lookAhead 13 = .ok (.iload_n 3, 1) := by decide +kernel
theorem dX6_lookAhead_14 : decode cX6_lookAhead 14 = .ok (.aload_n 0, 1) := by decide +kernel
theorem dX6_lookAhead_15 : decode cX6_lookAhead 15 = .ok (.getfield 25, 3) := by decide +kernel
theorem dX6_lookAhead_18 : decode cX6_lookAhead 18 = .ok (.if_icmp .ge 67, 3) := by decide +kernel
theorem dX6_lookAhead_21 : decode cX6_lookAhead 21 = .ok (.aload_n 1, 1) := by decide +kernel
theorem dX6_lookAhead_22 : decode cX6_lookAhead 22 = .ok (.getfield 29, 3) := by decide +kernel
theorem dX6_lookAhead_25 : decode cX6_lookAhead 25 = .ok (.aload_n 1, 1) := by decide +kernel
theorem dX6_lookAhead_26 : decode cX6_lookAhead 26 = .ok (.getfield 35, 3) := by decide +kernel
theorem dX6_lookAhead_29 : decode cX6_lookAhead 29 = .ok (.iload_n 3, 1) := by decide +kernel
theorem dX6_lookAhead_30 : decode cX6_lookAhead 30 = .ok (.iadd, 1) := by decide +kernel
theorem dX6_lookAhead_31 : decode cX6_lookAhead 31 = .ok (.invokevirtual 38, 3) := by decide +kernel
theorem dX6_lookAhead_34 : decode cX6_lookAhead 34 = .ok (.istore 4, 2) := by decide +kernel
theorem dX6_lookAhead_36 : decode cX6_lookAhead 36 = .ok (.aload_n 0, 1) := by decide +kernel
theorem dX6_lookAhead_37 : decode cX6_lookAhead 37 = .ok (.getfield 9, 3) := by decide +kernel
theorem dX6_lookAhead_40 : decode cX6_lookAhead 40 = .ok (.iload_n 3, 1) := by decide +kernel
theorem dX6_lookAhead_41 : decode cX6_lookAhead 41 = .ok (.aload_n 1, 1) := by decide +kernel
theorem dX6_lookAhead_42 : decode cX6_lookAhead 42 = .ok (.getfield 44, 3) := by decide +kernel
theorem dX6_lookAhead_45 : decode cX6_lookAhead 45 = .ok (.iload 4, 2) := by decide +kernel
theorem dX6_lookAhead_47 : decode cX6_lookAhead 47 = .ok (.aload_n 1, 1) := by decide +kernel
theorem dX6_lookAhead_48 : decode cX6_lookAhead 48 = .ok (.getfield 48, 3) := by decide +kernel
theorem dX6_lookAhead_51 : decode cX6_lookAhead 51 = .ok (.iconst 2, 1) := by decide +kernel
theorem dX6_lookAhead_52 : decode cX6_lookAhead 52 = .ok (.iaload, 1) := by decide +kernel
theorem dX6_lookAhead_53 : decode cX6_lookAhead 53 = .ok (.aload_n 1, 1) := by decide +kernel
theorem dX6_lookAhead_54 : decode cX6_lookAhead 54 = .ok (.getfield 48, 3) := by decide +kernel
theorem dX6_lookAhead_57 : decode cX6_lookAhead 57 = .ok (.iconst 3, 1) := by decide +kernel
theorem dX6_lookAhead_58 : decode cX6_lookAhead 58 = .ok (.iaload, 1) := by decide +kernel
theorem dX6_lookAhead_59 : decode cX6_lookAhead 59 = .ok (.invokevirtual 51, 3) := by decide +kernel
theorem dX6_lookAhead_62 : decode cX6_lookAhead 62 = .ok (.iastore, 1) := by decide +kernel
theorem dX6_lookAhead_63 : decode cX6_lookAhead 63 = .ok (.aload_n 0, 1) := by decide +kernel
theorem dX6_lookAhead_64 : decode cX6_lookAhead 64 = .ok (.getfield 15, 3) := by decide +kernel
theorem dX6_lookAhead_67 : decode cX6_lookAhead 67 = .ok (.iload_n 3, 1) := by decide +kernel
theorem dX6_lookAhead_68 : decode cX6_lookAhead 68 = .ok (.iload 4, 2) := by decide +kernel
theorem dX6_lookAhead_70 : decode cX6_lookAhead 70 = .ok (.ifCond .ne 7, 3) := by decide +kernel
theorem dX6_lookAhead_73 : decode cX6_lookAhead 73 = .ok (.iconst 1, 1) := by decide +kernel
theorem dX6_lookAhead_74 : decode cX6_lookAhead 74 = .ok (.goto 4, 3) := by decide +kernel
theorem dX6_lookAhead_77 : decode cX6_lookAhead 77 = .ok (.iconst 0, 1) := by decide +kernel
theorem dX6_lookAhead_78 : decode cX6_lookAhead 78 = .ok (.bastore, 1) := by decide +kernel
theorem dX6_lookAhead_79 : decode cX6_lookAhead 79 = .ok (.iinc 3 1, 3) := by decide +kernel
theorem dX6_lookAhead_82 : decode cX6_lookAhead 82 = .ok (.goto (-69), 3) := by decide +kernel
theorem dX6_lookAhead_85 : decode cX6_lookAhead 85 = .ok (.return_, 1) := by decide +kernel
theorem dX6_losesAtMost_0 : decode cX6_losesAtMost 0 = .ok (.aload_n 3, 1) := by decide +kernel
theorem dX6_losesAtMost_1 : decode cX6_losesAtMost 1 = .ok (.getfield 57, 3) := by decide +kernel
theorem dX6_losesAtMost_4 : decode cX6_losesAtMost 4 = .ok (.astore 4, 2) := by decide +kernel
theorem dX6_losesAtMost_6 : decode cX6_losesAtMost 6 = .ok (.aload_n 3, 1) := by decide +kernel
theorem dX6_losesAtMost_7 : decode cX6_losesAtMost 7 = .ok (.getfield 48, 3) := by decide +kernel
theorem dX6_losesAtMost_10 : decode cX6_losesAtMost 10 = .ok (.iconst 1, 1) := by decide +kernel
theorem dX6_losesAtMost_11 : decode cX6_losesAtMost 11 = .ok (.iaload, 1) := by decide +kernel
theorem dX6_losesAtMost_12 : decode cX6_losesAtMost 12 = .ok (.istore 5, 2) := by decide +kernel
theorem dX6_losesAtMost_14 : decode cX6_losesAtMost 14 = .ok (.aload_n 3, 1) := by decide +kernel
theorem dX6_losesAtMost_15 : decode cX6_losesAtMost 15 = .ok (.getfield 48, 3) := by decide +kernel
theorem dX6_losesAtMost_18 : decode cX6_losesAtMost 18 = .ok (.iconst 4, 1) := by decide +kernel
theorem dX6_losesAtMost_19 : decode cX6_losesAtMost 19 = .ok (.iaload, 1) := by decide +kernel
theorem dX6_losesAtMost_20 : decode cX6_losesAtMost 20 = .ok (.istore 6, 2) := by decide +kernel
theorem dX6_losesAtMost_22 : decode cX6_losesAtMost 22 = .ok (.aload 4, 2) := by decide +kernel
theorem dX6_losesAtMost_24 : decode cX6_losesAtMost 24 = .ok (.getfield 61, 3) := by decide +kernel
theorem dX6_losesAtMost_27 : decode cX6_losesAtMost 27 = .ok (.aload 4, 2) := by decide +kernel
theorem dX6_losesAtMost_29 : decode cX6_losesAtMost 29 = .ok (.getfield 66, 3) := by decide +kernel
theorem dX6_losesAtMost_32 : decode cX6_losesAtMost 32 = .ok (.iadd, 1) := by decide +kernel
theorem dX6_losesAtMost_33 : decode cX6_losesAtMost 33 = .ok (.iload_n 1, 1) := by decide +kernel
theorem dX6_losesAtMost_34 : decode cX6_losesAtMost 34 = .ok (.iadd, 1) := by decide +kernel
theorem dX6_losesAtMost_35 : decode cX6_losesAtMost 35 = .ok (.istore 7, 2) := by decide +kernel
theorem dX6_losesAtMost_37 : decode cX6_losesAtMost 37 = .ok (.iconst 0, 1) := by decide +kernel
theorem dX6_losesAtMost_38 : decode cX6_losesAtMost 38 = .ok (.istore 8, 2) := by decide +kernel
theorem dX6_losesAtMost_40 : decode cX6_losesAtMost 40 = .ok (.iload 8, 2) := by decide +kernel
theorem dX6_losesAtMost_42 : decode cX6_losesAtMost 42 = .ok (.aload_n 0, 1) := by decide +kernel
theorem dX6_losesAtMost_43 : decode cX6_losesAtMost 43 = .ok (.getfield 25, 3) := by decide +kernel
theorem dX6_losesAtMost_46 : decode cX6_losesAtMost 46 = .ok (.if_icmp .ge 50, 3) := by decide +kernel
theorem dX6_losesAtMost_49 : decode cX6_losesAtMost 49 = .ok (.aload 4, 2) := by decide +kernel
theorem dX6_losesAtMost_51 : decode cX6_losesAtMost 51 = .ok (.getfield 61, 3) := by decide +kernel
theorem dX6_losesAtMost_54 : decode cX6_losesAtMost 54 = .ok (.aload 4, 2) := by decide +kernel
theorem dX6_losesAtMost_56 : decode cX6_losesAtMost 56 = .ok (.getfield 66, 3) := by decide +kernel
theorem dX6_losesAtMost_59 : decode cX6_losesAtMost 59 = .ok (.iadd, 1) := by decide +kernel
theorem dX6_losesAtMost_60 : decode cX6_losesAtMost 60 = .ok (.iload 7, 2) := by decide +kernel
theorem dX6_losesAtMost_62 : decode cX6_losesAtMost 62 = .ok (.if_icmp .gt 34, 3) := by decide +kernel
theorem dX6_losesAtMost_65 : decode cX6_losesAtMost 65 = .ok (.aload 4, 2) := by decide +kernel
theorem dX6_losesAtMost_67 : decode cX6_losesAtMost 67 = .ok (.aload_n 0, 1) := by decide +kernel
theorem dX6_losesAtMost_68 : decode cX6_losesAtMost 68 = .ok (.getfield 9, 3) := by decide +kernel
theorem dX6_losesAtMost_71 : decode cX6_losesAtMost 71 = .ok (.iload 8, 2) := by decide +kernel
theorem dX6_losesAtMost_73 : decode cX6_losesAtMost 73 = .ok (.iaload, 1) := by decide +kernel
theorem dX6_losesAtMost_74 : decode cX6_losesAtMost 74 = .ok (.aload_n 0, 1) := by decide +kernel
theorem dX6_losesAtMost_75 : decode cX6_losesAtMost 75 = .ok (.getfield 15, 3) := by decide +kernel
theorem dX6_losesAtMost_78 : decode cX6_losesAtMost 78 = .ok (.iload 8, 2) := by decide +kernel
theorem dX6_losesAtMost_80 : decode cX6_losesAtMost 80 = .ok (.baload, 1) := by decide +kernel
theorem dX6_losesAtMost_81 : decode cX6_losesAtMost 81 = .ok (.iload_n 2, 1) := by decide +kernel
theorem dX6_losesAtMost_82 : decode cX6_losesAtMost 82 = .ok (.iload 5, 2) := by decide +kernel
theorem dX6_losesAtMost_84 : decode cX6_losesAtMost 84 = .ok (.iload 6, 2) := by decide +kernel
theorem dX6_losesAtMost_86 : decode cX6_losesAtMost 86 = .ok (.invokevirtual 69, 3) := by decide +kernel
theorem dX6_losesAtMost_89 : decode cX6_losesAtMost 89 = .ok (.pop, 1) := by decide +kernel
theorem dX6_losesAtMost_90 : decode cX6_losesAtMost 90 = .ok (.iinc 8 1, 3) := by decide +kernel
theorem dX6_losesAtMost_93 : decode cX6_losesAtMost 93 = .ok (.goto (-53), 3) := by decide +kernel
theorem dX6_losesAtMost_96 : decode cX6_losesAtMost 96 = .ok (.aload 4, 2) := by decide +kernel
theorem dX6_losesAtMost_98 : decode cX6_losesAtMost 98 = .ok (.getfield 61, 3) := by decide +kernel
theorem dX6_losesAtMost_101 : decode cX6_losesAtMost 101 = .ok (.aload 4, 2) := by decide +kernel
theorem dX6_losesAtMost_103 : decode cX6_losesAtMost 103 = .ok (.getfield 66, 3) := by decide +kernel
theorem dX6_losesAtMost_106 : decode cX6_losesAtMost 106 = .ok (.iadd, 1) := by decide +kernel
theorem dX6_losesAtMost_107 : decode cX6_losesAtMost 107 = .ok (.iload 7, 2) := by decide +kernel
theorem dX6_losesAtMost_109 : decode cX6_losesAtMost 109 = .ok (.if_icmp .gt 7, 3) := by decide +kernel
theorem dX6_losesAtMost_112 : decode cX6_losesAtMost 112 = .ok (.iconst 1, 1) := by decide +kernel
theorem dX6_losesAtMost_113 : decode cX6_losesAtMost 113 = .ok (.goto 4, 3) := by decide +kernel
theorem dX6_losesAtMost_116 : decode cX6_losesAtMost 116 = .ok (.iconst 0, 1) := by decide +kernel
theorem dX6_losesAtMost_117 : decode cX6_losesAtMost 117 = .ok (.ireturn, 1) := by decide +kernel
theorem dX7_init_0 : decode cX7_init 0 = .ok (.aload_n 0, 1) := by decide +kernel
theorem dX7_init_1 : decode cX7_init 1 = .ok (.invokespecial 3, 3) := by decide +kernel
theorem dX7_init_4 : decode cX7_init 4 = .ok (.aload_n 0, 1) := by decide +kernel
theorem dX7_init_5 : decode cX7_init 5 = .ok (.bipush 12, 2) := by decide +kernel
theorem dX7_init_7 : decode cX7_init 7 = .ok (.newarray .int, 2) := by decide +kernel
theorem dX7_init_9 : decode cX7_init 9 = .ok (.putfield 9, 3) := by decide +kernel
theorem dX7_init_12 : decode cX7_init 12 = .ok (.aload_n 0, 1) := by decide +kernel
theorem dX7_init_13 : decode cX7_init 13 = .ok (.bipush 12, 2) := by decide +kernel
theorem dX7_init_15 : decode cX7_init 15 = .ok (.newarray .int, 2) := by decide +kernel
theorem dX7_init_17 : decode cX7_init 17 = .ok (.putfield 15, 3) := by decide +kernel
theorem dX7_init_20 : decode cX7_init 20 = .ok (.aload_n 0, 1) := by decide +kernel
theorem dX7_init_21 : decode cX7_init 21 = .ok (.bipush 12, 2) := by decide +kernel
theorem dX7_init_23 : decode cX7_init 23 = .ok (.newarray .int, 2) := by decide +kernel
theorem dX7_init_25 : decode cX7_init 25 = .ok (.putfield 18, 3) := by decide +kernel
theorem dX7_init_28 : decode cX7_init 28 = .ok (.return_, 1) := by decide +kernel
theorem dX7_read_0 : decode cX7_read 0 = .ok (.aload_n 0, 1) := by decide +kernel
theorem dX7_read_1 : decode cX7_read 1 = .ok (.iconst 0, 1) := by decide +kernel
theorem dX7_read_2 : decode cX7_read 2 = .ok (.putfield 21, 3) := by decide +kernel
theorem dX7_read_5 : decode cX7_read 5 = .ok (.aload_n 0, 1) := by decide +kernel
theorem dX7_read_6 : decode cX7_read 6 = .ok (.iconst 0, 1) := by decide +kernel
theorem dX7_read_7 : decode cX7_read 7 = .ok (.putfield 25, 3) := by decide +kernel
theorem dX7_read_10 : decode cX7_read 10 = .ok (.aload_n 0, 1) := by decide +kernel
theorem dX7_read_11 : decode cX7_read 11 = .ok (.iconst 0, 1) := by decide +kernel
theorem dX7_read_12 : decode cX7_read 12 = .ok (.putfield 28, 3) := by decide +kernel
theorem dX7_read_15 : decode cX7_read 15 = .ok (.iconst 0, 1) := by decide +kernel
theorem dX7_read_16 : decode cX7_read 16 = .ok (.istore 4, 2) := by decide +kernel
theorem dX7_read_18 : decode cX7_read 18 = .ok (.iload 4, 2) := by decide +kernel
theorem dX7_read_20 : decode cX7_read 20 = .ok (.bipush 12, 2) := by decide +kernel
theorem dX7_read_22 : decode cX7_read 22 = .ok (.if_icmp .gt 42, 3) := by decide +kernel
theorem dX7_read_25 : decode cX7_read 25 = .ok (.aload_n 0, 1) := by decide +kernel
theorem dX7_read_26 : decode cX7_read 26 = .ok (.getfield 28, 3) := by decide +kernel
theorem dX7_read_29 : decode cX7_read 29 = .ok (.ifCond .ne 35, 3) := by decide +kernel
theorem dX7_read_32 : decode cX7_read 32 = .ok (.aload_n 0, 1) := by decide +kernel
theorem dX7_read_33 : decode cX7_read 33 = .ok (.getfield 25, 3) := by decide +kernel
theorem dX7_read_36 : decode cX7_read 36 = .ok (.aload_n 1, 1) := by decide +kernel
theorem dX7_read_37 : decode cX7_read 37 = .ok (.getfield 31, 3) := by decide +kernel
theorem dX7_read_40 : decode cX7_read 40 = .ok (.if_icmp .ge 24, 3) := by decide +kernel
theorem dX7_read_43 : decode cX7_read 43 = .ok (.aload_n 0, 1) := by decide +kernel
theorem dX7_read_44 : decode cX7_read 44 = .ok (.aload_n 0, 1) := by decide +kernel
theorem dX7_read_45 : decode cX7_read 45 = .ok (.getfield 25, 3) := by decide +kernel
theorem dX7_read_48 : decode cX7_read 48 = .ok (.putfield 36, 3) := by decide +kernel
theorem dX7_read_51 : decode cX7_read 51 = .ok (.aload_n 0, 1) := by decide +kernel
theorem dX7_read_52 : decode cX7_read 52 = .ok (.aload_n 1, 1) := by decide +kernel
theorem dX7_read_53 : decode cX7_read 53 = .ok (.iload_n 2, 1) := by decide +kernel
theorem dX7_read_54 : decode cX7_read 54 = .ok (.iload_n 3, 1) := by decide +kernel
theorem dX7_read_55 : decode cX7_read 55 = .ok (.invokevirtual 39, 3) := by decide +kernel
theorem dX7_read_58 : decode cX7_read 58 = .ok (.iinc 4 1, 3) := by decide +kernel
theorem dX7_read_61 : decode cX7_read 61 = .ok (.goto (-43), 3) := by decide +kernel
theorem dX7_read_64 : decode cX7_read 64 = .ok (.return_, 1) := by decide +kernel
theorem dX7_readShower_0 : decode cX7_readShower 0 = .ok (.iload_n 2, 1) := by decide +kernel
theorem dX7_readShower_1 : decode cX7_readShower 1 = .ok (.aload_n 0, 1) := by decide +kernel
theorem dX7_readShower_2 : decode cX7_readShower 2 = .ok (.aload_n 1, 1) := by decide +kernel
theorem dX7_readShower_3 : decode cX7_readShower 3 = .ok (.bipush 43, 2) := by decide +kernel
theorem dX7_readShower_5 : decode cX7_readShower 5 = .ok (.invokevirtual 43, 3) := by decide +kernel
theorem dX7_readShower_8 : decode cX7_readShower 8 = .ok (.iadd, 1) := by decide +kernel
theorem dX7_readShower_9 : decode cX7_readShower 9 = .ok (.istore 4, 2) := by decide +kernel
theorem dX7_readShower_11 : decode cX7_readShower 11 = .ok (.aload_n 0, 1) := by decide +kernel
theorem dX7_readShower_12 : decode cX7_readShower 12 = .ok (.aload_n 1, 1) := by decide +kernel
theorem dX7_readShower_13 : decode cX7_readShower 13 = .ok (.bipush 42, 2) := by decide +kernel
theorem dX7_readShower_15 : decode cX7_readShower 15 = .ok (.invokevirtual 43, 3) := by decide +kernel
theorem dX7_readShower_18 : decode cX7_readShower 18 = .ok (.istore 5, 2) := by decide +kernel
theorem dX7_readShower_20 : decode cX7_readShower 20 = .ok (.aload_n 0, 1) := by decide +kernel
theorem dX7_readShower_21 : decode cX7_readShower 21 = .ok (.aload_n 1, 1) := by decide +kernel
theorem dX7_readShower_22 : decode cX7_readShower 22 = .ok (.bipush 59, 2) := by decide +kernel
theorem dX7_readShower_24 : decode cX7_readShower 24 = .ok (.invokevirtual 43, 3) := by decide +kernel
theorem dX7_readShower_27 : decode cX7_readShower 27 = .ok (.istore 6, 2) := by decide +kernel
theorem dX7_readShower_29 : decode cX7_readShower 29 = .ok (.aload_n 0, 1) := by decide +kernel
theorem dX7_readShower_30 : decode cX7_readShower 30 = .ok (.getfield 28, 3) := by decide +kernel
theorem dX7_readShower_33 : decode cX7_readShower 33 = .ok (.ifCond .eq 4, 3) := by decide +kernel
theorem dX7_readShower_36 : decode cX7_readShower 36 = .ok (.return_, 1) := by decide +kernel
theorem dX7_readShower_37 : decode cX7_readShower 37 = .ok (.iload 4, 2) := by decide +kernel
theorem dX7_readShower_39 : decode cX7_readShower 39 = .ok (.sipush 5000, 3) := by decide +kernel
theorem dX7_readShower_42 : decode cX7_readShower 42 = .ok (.if_icmp .gt 27, 3) := by decide +kernel
theorem dX7_readShower_45 : decode cX7_readShower 45 = .ok (.iload 5, 2) := by decide +kernel
theorem dX7_readShower_47 : decode cX7_readShower 47 = .ok (.iconst 1, 1) := by decide +kernel
theorem dX7_readShower_48 : decode cX7_readShower 48 = .ok (.sipush 500, 3) := by decide +kernel
theorem dX7_readShower_51 : decode cX7_readShower 51 = .ok (.invokestatic 47, 3) := by decide +kernel
theorem dX7_readShower_54 : decode cX7_readShower 54 = .ok (.ifCond .eq 15, 3) := by decide +kernel
theorem dX7_readShower_57 : decode cX7_readShower 57 = .ok (.iload 6, 2) := by decide +kernel
theorem dX7_readShower_59 : decode cX7_readShower 59 = .ok (.iconst 1, 1) := by decide +kernel
theorem dX7_readShower_60 : decode cX7_readShower 60 = .ok (.sipush 200, 3) := by decide +kernel
theorem dX7_readShower_63 : decode cX7_readShower 63 = .ok (.invokestatic 47, 3) := by decide +kernel
theorem dX7_readShower_66 : decode cX7_readShower 66 = .ok (.ifCond .ne 11, 3) := by decide +kernel
theorem dX7_readShower_69 : decode cX7_readShower 69 = .ok (.aload_n 0, 1) := by decide +kernel
theorem dX7_readShower_70 : decode cX7_readShower 70 = .ok (.iconst 3, 1) := by decide +kernel
theorem dX7_readShower_71 : decode cX7_readShower 71 = .ok (.putfield 28, 3) := by decide +kernel
theorem dX7_readShower_74 : decode cX7_readShower 74 = .ok (.goto 74, 3) := by decide +kernel
theorem dX7_readShower_77 : decode cX7_readShower 77 = .ok (.iload_n 3, 1) := by decide +kernel
theorem dX7_readShower_78 : decode cX7_readShower 78 = .ok (.aload_n 0, 1) := by decide +kernel
theorem dX7_readShower_79 : decode cX7_readShower 79 = .ok (.getfield 21, 3) := by decide +kernel
theorem dX7_readShower_82 : decode cX7_readShower 82 = .ok (.iadd, 1) := by decide +kernel
theorem dX7_readShower_83 : decode cX7_readShower 83 = .ok (.bipush 12, 2) := by decide +kernel
theorem dX7_readShower_85 : decode cX7_readShower 85 = .ok (.if_icmp .ge 12, 3) := by decide +kernel
theorem dX7_readShower_88 : decode cX7_readShower 88 = .ok (.aload_n 0, 1) := by decide +kernel
theorem dX7_readShower_89 : decode cX7_readShower 89 = .ok (.getfield 21, 3) := by decide +kernel
theorem dX7_readShower_92 : decode cX7_readShower 92 = .ok (.bipush 12, 2) := by decide +kernel
theorem dX7_readShower_94 : decode cX7_readShower 94 = .ok (.if_icmp .lt 11, 3) := by decide +kernel
theorem dX7_readShower_97 : decode cX7_readShower 97 = .ok (.aload_n 0, 1) := by decide +kernel
theorem dX7_readShower_98 : decode cX7_readShower 98 = .ok (.iconst 4, 1) := by decide +kernel
theorem dX7_readShower_99 : decode cX7_readShower 99 = .ok (.putfield 28, 3) := by decide +kernel
theorem dX7_readShower_102 : decode cX7_readShower 102 = .ok (.goto 46, 3) := by decide +kernel
theorem dX7_readShower_105 : decode cX7_readShower 105 = .ok (.aload_n 0, 1) := by decide +kernel
theorem dX7_readShower_106 : decode cX7_readShower 106 = .ok (.getfield 9, 3) := by decide +kernel
theorem dX7_readShower_109 : decode cX7_readShower 109 = .ok (.aload_n 0, 1) := by decide +kernel
theorem dX7_readShower_110 : decode cX7_readShower 110 = .ok (.getfield 21, 3) := by decide +kernel
theorem dX7_readShower_113 : decode cX7_readShower 113 = .ok (.iload 4, 2) := by decide +kernel
theorem dX7_readShower_115 : decode cX7_readShower 115 = .ok (.iastore, 1) := by decide +kernel
theorem dX7_readShower_116 : decode cX7_readShower 116 = .ok (.aload_n 0, 1) := by decide +kernel
theorem dX7_readShower_117 : decode cX7_readShower 117 = .ok (.getfield 15, 3) := by decide +kernel
theorem dX7_readShower_120 : decode cX7_readShower 120 = .ok (.aload_n 0, 1) := by decide +kernel
theorem dX7_readShower_121 : decode cX7_readShower 121 = .ok (.getfield 21, 3) := by decide +kernel
theorem dX7_readShower_124 : decode cX7_readShower 124 = .ok (.iload 5, 2) := by decide +kernel
theorem dX7_readShower_126 : decode cX7_readShower 126 = .ok (.iastore, 1) := by decide +kernel
theorem dX7_readShower_127 : decode cX7_readShower 127 = .ok (.aload_n 0, 1) := by decide +kernel
theorem dX7_readShower_128 : decode cX7_readShower 128 = .ok (.getfield 18, 3) := by decide +kernel
theorem dX7_readShower_131 : decode cX7_readShower 131 = .ok (.aload_n 0, 1) := by decide +kernel
theorem dX7_readShower_132 : decode cX7_readShower 132 = .ok (.getfield 21, 3) := by decide +kernel
theorem dX7_readShower_135 : decode cX7_readShower 135 = .ok (.iload 6, 2) := by decide +kernel
theorem dX7_readShower_137 : decode cX7_readShower 137 = .ok (.iastore, 1) := by decide +kernel
theorem dX7_readShower_138 : decode cX7_readShower 138 = .ok (.aload_n 0, 1) := by decide +kernel
theorem dX7_readShower_139 : decode cX7_readShower 139 = .ok (.dup, 1) := by decide +kernel
theorem dX7_readShower_140 : decode cX7_readShower 140 = .ok (.getfield 21, 3) := by decide +kernel
theorem dX7_readShower_143 : decode cX7_readShower 143 = .ok (.iconst 1, 1) := by decide +kernel
theorem dX7_readShower_144 : decode cX7_readShower 144 = .ok (.iadd, 1) := by decide +kernel
theorem dX7_readShower_145 : decode cX7_readShower 145 = .ok (.putfield 21, 3) := by decide +kernel
theorem dX7_readShower_148 : decode cX7_readShower 148 = .ok (.return_, 1) := by decide +kernel
theorem dX7_readNumber_0 : decode cX7_readNumber 0 = .ok (.aload_n 0, 1) := by decide +kernel
theorem dX7_readNumber_1 : decode cX7_readNumber 1 = .ok (.getfield 28, 3) := by decide +kernel
theorem dX7_readNumber_4 : decode cX7_readNumber 4 = .ok (.ifCond .eq 5, 3) := by decide +kernel
theorem dX7_readNumber_7 : decode cX7_readNumber 7 = .ok (.iconst 0, 1) := by decide +kernel
theorem dX7_readNumber_8 : decode cX7_readNumber 8 = .ok (.ireturn, 1) := by decide +kernel
theorem dX7_readNumber_9 : decode cX7_readNumber 9 = .ok (.iconst 0, 1) := by decide +kernel
theorem dX7_readNumber_10 : decode cX7_readNumber 10 = .ok (.istore_n 3, 1) := by decide +kernel
theorem dX7_readNumber_11 : decode cX7_readNumber 11 = .ok (.iconst 0, 1) := by decide +kernel
theorem dX7_readNumber_12 : decode cX7_readNumber 12 = .ok (.istore 4, 2) := by decide +kernel
theorem dX7_readNumber_14 : decode cX7_readNumber 14 = .ok (.iload 4, 2) := by decide +kernel
theorem dX7_readNumber_16 : decode cX7_readNumber 16 = .ok (.iconst 4, 1) := by decide +kernel
theorem dX7_readNumber_17 : decode cX7_readNumber 17 = .ok (.if_icmp .ge 47, 3) := by decide +kernel
theorem dX7_readNumber_20 : decode cX7_readNumber 20 = .ok (.aload_n 1, 1) := by decide +kernel
theorem dX7_readNumber_21 : decode cX7_readNumber 21 = .ok (.aload_n 0, 1) := by decide +kernel
theorem dX7_readNumber_22 : decode cX7_readNumber 22 = .ok (.getfield 25, 3) := by decide +kernel
theorem dX7_readNumber_25 : decode cX7_readNumber 25 = .ok (.invokevirtual 51, 3) := by decide +kernel
theorem dX7_readNumber_28 : decode cX7_readNumber 28 = .ok (.ifCond .eq 36, 3) := by decide +kernel
theorem dX7_readNumber_31 : decode cX7_readNumber 31 = .ok (.bipush 10, 2) := by decide +kernel
theorem dX7_readNumber_33 : decode cX7_readNumber 33 = .ok (.iload_n 3, 1) := by decide +kernel
theorem dX7_readNumber_34 : decode cX7_readNumber 34 = .ok (.imul, 1) := by decide +kernel
theorem dX7_readNumber_35 : decode cX7_readNumber 35 = .ok (.aload_n 1, 1) := by decide +kernel
theorem dX7_readNumber_36 : decode cX7_readNumber 36 = .ok (.aload_n 0, 1) := by decide +kernel
theorem dX7_readNumber_37 : decode cX7_readNumber 37 = .ok (.getfield 25, 3) := by decide +kernel
theorem dX7_readNumber_40 : decode cX7_readNumber 40 = .ok (.invokevirtual 55, 3) := by decide +kernel
theorem dX7_readNumber_43 : decode cX7_readNumber 43 = .ok (.bipush 48, 2) := by decide +kernel
theorem dX7_readNumber_45 : decode cX7_readNumber 45 = .ok (.isub, 1) := by decide +kernel
theorem dX7_readNumber_46 : decode cX7_readNumber 46 = .ok (.iadd, 1) := by decide +kernel
theorem dX7_readNumber_47 : decode cX7_readNumber 47 = .ok (.istore_n 3, 1) := by decide +kernel
theorem dX7_readNumber_48 : decode cX7_readNumber 48 = .ok (.aload_n 0, 1) := by decide +kernel
theorem dX7_readNumber_49 : decode cX7_readNumber 49 = .ok (.dup, 1) := by decide +kernel
theorem dX7_readNumber_50 : decode cX7_readNumber 50 = .ok (.getfield 25, 3) := by decide +kernel
theorem dX7_readNumber_53 : decode cX7_readNumber 53 = .ok (.iconst 1, 1) := by decide +kernel
theorem dX7_readNumber_54 : decode cX7_readNumber 54 = .ok (.iadd, 1) := by decide +kernel
theorem dX7_readNumber_55 : decode cX7_readNumber 55 = .ok (.putfield 25, 3) := by decide +kernel
theorem dX7_readNumber_58 : decode cX7_readNumber 58 = .ok (.iinc 4 1, 3) := by decide +kernel
theorem dX7_readNumber_61 : decode cX7_readNumber 61 = .ok (.goto (-47), 3) := by decide +kernel
theorem dX7_readNumber_64 : decode cX7_readNumber 64 = .ok (.iload 4, 2) := by decide +kernel
theorem dX7_readNumber_66 : decode cX7_readNumber 66 = .ok (.ifCond .ne 11, 3) := by decide +kernel
theorem dX7_readNumber_69 : decode cX7_readNumber 69 = .ok (.aload_n 0, 1) := by decide +kernel
theorem dX7_readNumber_70 : decode cX7_readNumber 70 = .ok (.iconst 1, 1) := by decide +kernel
theorem dX7_readNumber_71 : decode cX7_readNumber 71 = .ok (.putfield 28, 3) := by decide +kernel
theorem dX7_readNumber_74 : decode cX7_readNumber 74 = .ok (.goto 20, 3) := by decide +kernel
theorem dX7_readNumber_77 : decode cX7_readNumber 77 = .ok (.aload_n 1, 1) := by decide +kernel
theorem dX7_readNumber_78 : decode cX7_readNumber 78 = .ok (.aload_n 0, 1) := by decide +kernel
theorem dX7_readNumber_79 : decode cX7_readNumber 79 = .ok (.getfield 25, 3) := by decide +kernel
theorem dX7_readNumber_82 : decode cX7_readNumber 82 = .ok (.invokevirtual 55, 3) := by decide +kernel
theorem dX7_readNumber_85 : decode cX7_readNumber 85 = .ok (.iload_n 2, 1) := by decide +kernel
theorem dX7_readNumber_86 : decode cX7_readNumber 86 = .ok (.if_icmp .eq 8, 3) := by decide +kernel
theorem dX7_readNumber_89 : decode cX7_readNumber 89 = .ok (.aload_n 0, 1) := by decide +kernel
theorem dX7_readNumber_90 : decode cX7_readNumber 90 = .ok (.iconst 2, 1) := by decide +kernel
theorem dX7_readNumber_91 : decode cX7_readNumber 91 = .ok (.putfield 28, 3) := by decide +kernel
theorem dX7_readNumber_94 : decode cX7_readNumber 94 = .ok (.aload_n 0, 1) := by decide +kernel
theorem dX7_readNumber_95 : decode cX7_readNumber 95 = .ok (.dup, 1) := by decide +kernel
theorem dX7_readNumber_96 : decode cX7_readNumber 96 = .ok (.getfield 25, 3) := by decide +kernel
theorem dX7_readNumber_99 : decode cX7_readNumber 99 = .ok (.iconst 1, 1) := by decide +kernel
theorem dX7_readNumber_100 : decode cX7_readNumber 100 = .ok (.iadd, 1) := by decide +kernel
theorem dX7_readNumber_101 : decode cX7_readNumber 101 = .ok (.putfield 25, 3) := by decide +kernel
theorem dX7_readNumber_104 : decode cX7_readNumber 104 = .ok (.iload_n 3, 1) := by decide +kernel
theorem dX7_readNumber_105 : decode cX7_readNumber 105 = .ok (.ireturn, 1) := by decide +kernel
theorem dX8_init_0 : decode cX8_init 0 = .ok (.aload_n 0, 1) := by decide +kernel
theorem dX8_init_1 : decode cX8_init 1 = .ok (.invokespecial 3, 3) := by decide +kernel
theorem dX8_init_4 : decode cX8_init 4 = .ok (.aload_n 0, 1) := by decide +kernel
theorem dX8_init_5 : decode cX8_init 5 = .ok (.bipush 12, 2) := by decide +kernel
theorem dX8_init_7 : decode cX8_init 7 = .ok (.newarray .int, 2) := by decide +kernel
theorem dX8_init_9 : decode cX8_init 9 = .ok (.putfield 9, 3) := by decide +kernel
theorem dX8_init_12 : decode cX8_init 12 = .ok (.aload_n 0, 1) := by decide +kernel
theorem dX8_init_13 : decode cX8_init 13 = .ok (.bipush 12, 2) := by decide +kernel
theorem dX8_init_15 : decode cX8_init 15 = .ok (.newarray .int, 2) := by decide +kernel
theorem dX8_init_17 : decode cX8_init 17 = .ok (.putfield 15, 3) := by decide +kernel
theorem dX8_init_20 : decode cX8_init 20 = .ok (.aload_n 0, 1) := by decide +kernel
theorem dX8_init_21 : decode cX8_init 21 = .ok (.bipush 12, 2) := by decide +kernel
theorem dX8_init_23 : decode cX8_init 23 = .ok (.newarray .int, 2) := by decide +kernel
theorem dX8_init_25 : decode cX8_init 25 = .ok (.putfield 18, 3) := by decide +kernel
theorem dX8_init_28 : decode cX8_init 28 = .ok (.return_, 1) := by decide +kernel
theorem dX8_copyFrom_0 : decode cX8_copyFrom 0 = .ok (.aload_n 1, 1) := by decide +kernel
theorem dX8_copyFrom_1 : decode cX8_copyFrom 1 = .ok (.getfield 9, 3) := by decide +kernel
theorem dX8_copyFrom_4 : decode cX8_copyFrom 4 = .ok (.aload_n 0, 1) := by decide +kernel
theorem dX8_copyFrom_5 : decode cX8_copyFrom 5 = .ok (.getfield 9, 3) := by decide +kernel
theorem dX8_copyFrom_8 : decode cX8_copyFrom 8 = .ok (.invokestatic 21, 3) := by decide +kernel
theorem dX8_copyFrom_11 : decode cX8_copyFrom 11 = .ok (.aload_n 1, 1) := by decide +kernel
theorem dX8_copyFrom_12 : decode cX8_copyFrom 12 = .ok (.getfield 15, 3) := by decide +kernel
theorem dX8_copyFrom_15 : decode cX8_copyFrom 15 = .ok (.aload_n 0, 1) := by decide +kernel
theorem dX8_copyFrom_16 : decode cX8_copyFrom 16 = .ok (.getfield 15, 3) := by decide +kernel
theorem dX8_copyFrom_19 : decode cX8_copyFrom 19 = .ok (.invokestatic 21, 3) := by decide +kernel
theorem dX8_copyFrom_22 : decode cX8_copyFrom 22 = .ok (.aload_n 1, 1) := by decide +kernel
theorem dX8_copyFrom_23 : decode cX8_copyFrom 23 = .ok (.getfield 18, 3) := by decide +kernel
theorem dX8_copyFrom_26 : decode cX8_copyFrom 26 = .ok (.aload_n 0, 1) := by decide +kernel
theorem dX8_copyFrom_27 : decode cX8_copyFrom 27 = .ok (.getfield 18, 3) := by decide +kernel
theorem dX8_copyFrom_30 : decode cX8_copyFrom 30 = .ok (.invokestatic 21, 3) := by decide +kernel
theorem dX8_copyFrom_33 : decode cX8_copyFrom 33 = .ok (.aload_n 0, 1) := by decide +kernel
theorem dX8_copyFrom_34 : decode cX8_copyFrom 34 = .ok (.aload_n 1, 1) := by decide +kernel
theorem dX8_copyFrom_35 : decode cX8_copyFrom 35 = .ok (.getfield 25, 3) := by decide +kernel
theorem dX8_copyFrom_38 : decode cX8_copyFrom 38 = .ok (.putfield 25, 3) := by decide +kernel
theorem dX8_copyFrom_41 : decode cX8_copyFrom 41 = .ok (.return_, 1) := by decide +kernel
theorem dX8_has_0 : decode cX8_has 0 = .ok (.iload_n 1, 1) := by decide +kernel
theorem dX8_has_1 : decode cX8_has 1 = .ok (.ifCond .lt 15, 3) := by decide +kernel
theorem dX8_has_4 : decode cX8_has 4 = .ok (.iload_n 1, 1) := by decide +kernel
theorem dX8_has_5 : decode cX8_has 5 = .ok (.aload_n 0, 1) := by decide +kernel
theorem dX8_has_6 : decode cX8_has 6 = .ok (.getfield 25, 3) := by decide +kernel
theorem dX8_has_9 : decode cX8_has 9 = .ok (.if_icmp .ge 7, 3) := by decide +kernel
theorem dX8_has_12 : decode cX8_has 12 = .ok (.iconst 1, 1) := by decide +kernel
theorem dX8_has_13 : decode cX8_has 13 = .ok (.goto 4, 3) := by decide +kernel
theorem dX8_has_16 : decode cX8_has 16 = .ok (.iconst 0, 1) := by decide +kernel
theorem dX8_has_17 : decode cX8_has 17 = .ok (.ireturn, 1) := by decide +kernel
theorem dX8_insert_0 : decode cX8_insert 0 = .ok (.aload_n 0, 1) := by decide +kernel
theorem dX8_insert_1 : decode cX8_insert 1 = .ok (.getfield 25, 3) := by decide +kernel
theorem dX8_insert_4 : decode cX8_insert 4 = .ok (.bipush 12, 2) := by decide +kernel
theorem dX8_insert_6 : decode cX8_insert 6 = .ok (.if_icmp .lt 6, 3) := by decide +kernel
theorem dX8_insert_9 : decode cX8_insert 9 = .ok (.bipush (-3), 2) := by decide +kernel
theorem dX8_insert_11 : decode cX8_insert 11 = .ok (.ireturn, 1) := by decide +kernel
theorem dX8_insert_12 : decode cX8_insert 12 = .ok (.aload_n 0, 1) := by decide +kernel
theorem dX8_insert_13 : decode cX8_insert 13 = .ok (.getfield 25, 3) := by decide +kernel
theorem dX8_insert_16 : decode cX8_insert 16 = .ok (.istore 4, 2) := by decide +kernel
theorem dX8_insert_18 : decode cX8_insert 18 = .ok (.iload 4, 2) := by decide +kernel
theorem dX8_insert_20 : decode cX8_insert 20 = .ok (.ifCond .le 32, 3) := by decide +kernel
theorem dX8_insert_23 : decode cX8_insert 23 = .ok (.aload_n 0, 1) := by decide +kernel
theorem dX8_insert_24 : decode cX8_insert 24 = .ok (.getfield 9, 3) := by decide +kernel
theorem dX8_insert_27 : decode cX8_insert 27 = .ok (.iload 4, 2) := by decide +kernel
theorem dX8_insert_29 : decode cX8_insert 29 = .ok (.iconst 1, 1) := by decide +kernel
theorem dX8_insert_30 : decode cX8_insert 30 = .ok (.isub, 1) := by decide +kernel
theorem dX8_insert_31 : decode cX8_insert 31 = .ok (.iaload, 1) := by decide +kernel
theorem dX8_insert_32 : decode cX8_insert 32 = .ok (.iload_n 1, 1) := by decide +kernel
theorem dX8_insert_33 : decode cX8_insert 33 = .ok (.if_icmp .le 19, 3) := by decide +kernel
theorem dX8_insert_36 : decode cX8_insert 36 = .ok (.aload_n 0, 1) := by decide +kernel
theorem dX8_insert_37 : decode cX8_insert 37 = .ok (.iload 4, 2) := by decide +kernel
theorem dX8_insert_39 : decode cX8_insert 39 = .ok (.iconst 1, 1) := by decide +kernel
theorem dX8_insert_40 : decode cX8_insert 40 = .ok (.isub, 1) := by decide +kernel
theorem dX8_insert_41 : decode cX8_insert 41 = .ok (.iload 4, 2) := by decide +kernel
theorem dX8_insert_43 : decode cX8_insert 43 = .ok (.invokevirtual 29, 3) := by decide +kernel
theorem dX8_insert_46 : decode cX8_insert 46 = .ok (.iinc 4 (-1), 3) := by decide +kernel
theorem dX8_insert_49 : decode cX8_insert 49 = .ok (.goto (-31), 3) := by decide +kernel
theorem dX8_insert_52 : decode cX8_insert 52 = .ok (.aload_n 0, 1) := by decide +kernel
theorem dX8_insert_53 : decode cX8_insert 53 = .ok (.getfield 9, 3) := by decide +kernel
theorem dX8_insert_56 : decode cX8_insert 56 = .ok (.iload 4, 2) := by decide +kernel
theorem dX8_insert_58 : decode cX8_insert 58 = .ok (.iload_n 1, 1) := by decide +kernel
theorem dX8_insert_59 : decode cX8_insert 59 = .ok (.iastore, 1) := by decide +kernel
theorem dX8_insert_60 : decode cX8_insert 60 = .ok (.aload_n 0, 1) := by decide +kernel
theorem dX8_insert_61 : decode cX8_insert 61 = .ok (.getfield 15, 3) := by decide +kernel
theorem dX8_insert_64 : decode cX8_insert 64 = .ok (.iload 4, 2) := by decide +kernel
theorem dX8_insert_66 : decode cX8_insert 66 = .ok (.iload_n 2, 1) := by decide +kernel
theorem dX8_insert_67 : decode cX8_insert 67 = .ok (.iastore, 1) := by decide +kernel
theorem dX8_insert_68 : decode cX8_insert 68 = .ok (.aload_n 0, 1) := by decide +kernel
theorem dX8_insert_69 : decode cX8_insert 69 = .ok (.getfield 18, 3) := by decide +kernel
theorem dX8_insert_72 : decode cX8_insert 72 = .ok (.iload 4, 2) := by decide +kernel
theorem dX8_insert_74 : decode cX8_insert 74 = .ok (.iload_n 3, 1) := by decide +kernel
theorem dX8_insert_75 : decode cX8_insert 75 = .ok (.iastore, 1) := by decide +kernel
theorem dX8_insert_76 : decode cX8_insert 76 = .ok (.aload_n 0, 1) := by decide +kernel
theorem dX8_insert_77 : decode cX8_insert 77 = .ok (.dup, 1) := by decide +kernel
theorem dX8_insert_78 : decode cX8_insert 78 = .ok (.getfield 25, 3) := by decide +kernel
theorem dX8_insert_81 : decode cX8_insert 81 = .ok (.iconst 1, 1) := by decide +kernel
theorem dX8_insert_82 : decode cX8_insert 82 = .ok (.iadd, 1) := by decide +kernel
theorem dX8_insert_83 : decode cX8_insert 83 = .ok (.putfield 25, 3) := by decide +kernel
theorem dX8_insert_86 : decode cX8_insert 86 = .ok (.iload 4, 2) := by decide +kernel
theorem dX8_insert_88 : decode cX8_insert 88 = .ok (.ireturn, 1) := by decide +kernel
theorem dX8_removeAt_0 : decode cX8_removeAt 0 = .ok (.aload_n 0, 1) := by decide +kernel
theorem dX8_removeAt_1 : decode cX8_removeAt 1 = .ok (.iload_n 1, 1) := by decide +kernel
theorem dX8_removeAt_2 : decode cX8_removeAt 2 = .ok (.invokevirtual 33, 3) := by decide +kernel
theorem dX8_removeAt_5 : decode cX8_removeAt 5 = .ok (.ifCond .ne 4, 3) := by decide +kernel
theorem dX8_removeAt_8 : decode cX8_removeAt 8 = .ok (.return_, 1) := by decide +kernel
theorem dX8_removeAt_9 : decode cX8_removeAt 9 = .ok (.iload_n 1, 1) := by decide +kernel
theorem dX8_removeAt_10 : decode cX8_removeAt 10 = .ok (.iconst 1, 1) := by decide +kernel
theorem dX8_removeAt_11 : decode cX8_removeAt 11 = .ok (.iadd, 1) := by decide +kernel
theorem dX8_removeAt_12 : decode cX8_removeAt 12 = .ok (.istore_n 2, 1) := by decide +kernel
theorem dX8_removeAt_13 : decode cX8_removeAt 13 = .ok (.iload_n 2, 1) := by decide +kernel
theorem dX8_removeAt_14 : decode cX8_removeAt 14 = .ok (.aload_n 0, 1) := by decide +kernel
theorem dX8_removeAt_15 : decode cX8_removeAt 15 = .ok (.getfield 25, 3) := by decide +kernel
theorem dX8_removeAt_18 : decode cX8_removeAt 18 = .ok (.if_icmp .ge 17, 3) := by decide +kernel
theorem dX8_removeAt_21 : decode cX8_removeAt 21 = .ok (.aload_n 0, 1) := by decide +kernel
theorem dX8_removeAt_22 : decode cX8_removeAt 22 = .ok (.iload_n 2, 1) := by decide +kernel
theorem dX8_removeAt_23 : decode cX8_removeAt 23 = .ok (.iload_n 2, 1) := by decide +kernel
theorem dX8_removeAt_24 : decode cX8_removeAt 24 = .ok (.iconst 1, 1) := by decide +kernel
theorem dX8_removeAt_25 : decode cX8_removeAt 25 = .ok (.isub, 1) := by decide +kernel
theorem dX8_removeAt_26 : decode cX8_removeAt 26 = .ok (.invokevirtual 29, 3) := by decide +kernel
theorem dX8_removeAt_29 : decode cX8_removeAt 29 = .ok (.iinc 2 1, 3) := by decide +kernel
theorem dX8_removeAt_32 : decode cX8_removeAt 32 = .ok (.goto (-19), 3) := by decide +kernel
theorem dX8_removeAt_35 : decode cX8_removeAt 35 = .ok (.aload_n 0, 1) := by decide +kernel
theorem dX8_removeAt_36 : decode cX8_removeAt 36 = .ok (.dup, 1) := by decide +kernel
theorem dX8_removeAt_37 : decode cX8_removeAt 37 = .ok (.getfield 25, 3) := by decide +kernel
theorem dX8_removeAt_40 : decode cX8_removeAt 40 = .ok (.iconst 1, 1) := by decide +kernel
theorem dX8_removeAt_41 : decode cX8_removeAt 41 = .ok (.isub, 1) := by decide +kernel
theorem dX8_removeAt_42 : decode cX8_removeAt 42 = .ok (.putfield 25, 3) := by decide +kernel
theorem dX8_removeAt_45 : decode cX8_removeAt 45 = .ok (.return_, 1) := by decide +kernel
theorem dX8_removeEnded_0 : decode cX8_removeEnded 0 = .ok (.iconst 0, 1) := by decide +kernel
theorem dX8_removeEnded_1 : decode cX8_removeEnded 1 = .ok (.istore_n 2, 1) := by decide +kernel
theorem dX8_removeEnded_2 : decode cX8_removeEnded 2 = .ok (.iconst 0, 1) := by decide +kernel
theorem dX8_removeEnded_3 : decode cX8_removeEnded 3 = .ok (.istore_n 3, 1) := by decide +kernel
theorem dX8_removeEnded_4 : decode cX8_removeEnded 4 = .ok (.iload_n 3, 1) := by decide +kernel
theorem dX8_removeEnded_5 : decode cX8_removeEnded 5 = .ok (.aload_n 0, 1) := by decide +kernel
theorem dX8_removeEnded_6 : decode cX8_removeEnded 6 = .ok (.getfield 25, 3) := by decide +kernel
theorem dX8_removeEnded_9 : decode cX8_removeEnded 9 = .ok (.if_icmp .ge 35, 3) := by decide +kernel
theorem dX8_removeEnded_12 : decode cX8_removeEnded 12 = .ok (.aload_n 0, 1) := by decide +kernel
theorem dX8_removeEnded_13 : decode cX8_removeEnded 13 = .ok (.getfield 9, 3) := by decide +kernel
theorem dX8_removeEnded_16 : decode cX8_removeEnded 16 = .ok (.iload_n 3, 1) := by decide +kernel
theorem dX8_removeEnded_17 : decode cX8_removeEnded 17 = .ok (.iaload, 1) := by decide +kernel
theorem dX8_removeEnded_18 : decode cX8_removeEnded 18 = .ok (.aload_n 0, 1) := by decide +kernel
theorem dX8_removeEnded_19 : decode cX8_removeEnded 19 = .ok (.getfield 15, 3) := by decide +kernel
theorem dX8_removeEnded_22 : decode cX8_removeEnded 22 = .ok (.iload_n 3, 1) := by decide +kernel
theorem dX8_removeEnded_23 : decode cX8_removeEnded 23 = .ok (.iaload, 1) := by decide +kernel
theorem dX8_removeEnded_24 : decode cX8_removeEnded 24 = .ok (.iadd, 1) := by decide +kernel
theorem dX8_removeEnded_25 : decode cX8_removeEnded 25 = .ok (.iload_n 1, 1) := by decide +kernel
theorem dX8_removeEnded_26 : decode cX8_removeEnded 26 = .ok (.if_icmp .le 12, 3) := by decide +kernel
theorem dX8_removeEnded_29 : decode cX8_removeEnded 29 = .ok (.aload_n 0, 1) := by decide +kernel
theorem dX8_removeEnded_30 : decode cX8_removeEnded 30 = .ok (.iload_n 3, 1) := by decide +kernel
theorem dX8_removeEnded_31 : decode cX8_removeEnded 31 = .ok (.iload_n 2, 1) := by decide +kernel
theorem dX8_removeEnded_32 : decode cX8_removeEnded 32 = .ok (.invokevirtual 29, 3) := by decide +kernel
theorem dX8_removeEnded_35 : decode cX8_removeEnded 35 = .ok (.iinc 2 1, 3) := by decide +kernel
theorem dX8_removeEnded_38 : decode cX8_removeEnded 38 = .ok (.iinc 3 1, 3) := by decide +kernel
theorem dX8_removeEnded_41 : decode cX8_removeEnded 41 = .ok (.goto (-37), 3) := by decide +kernel
theorem dX8_removeEnded_44 : decode cX8_removeEnded 44 = .ok (.aload_n 0, 1) := by decide +kernel
theorem dX8_removeEnded_45 : decode cX8_removeEnded 45 = .ok (.iload_n 2, 1) := by decide +kernel
theorem dX8_removeEnded_46 : decode cX8_removeEnded 46 = .ok (.putfield 25, 3) := by decide +kernel
theorem dX8_removeEnded_49 : decode cX8_removeEnded 49 = .ok (.return_, 1) := by decide +kernel
theorem dX8_move_0 : decode cX8_move 0 = .ok (.aload_n 0, 1) := by decide +kernel
theorem dX8_move_1 : decode cX8_move 1 = .ok (.getfield 9, 3) := by decide +kernel
theorem dX8_move_4 : decode cX8_move 4 = .ok (.iload_n 2, 1) := by decide +kernel
theorem dX8_move_5 : decode cX8_move 5 = .ok (.aload_n 0, 1) := by decide +kernel
theorem dX8_move_6 : decode cX8_move 6 = .ok (.getfield 9, 3) := by decide +kernel
theorem dX8_move_9 : decode cX8_move 9 = .ok (.iload_n 1, 1) := by decide +kernel
theorem dX8_move_10 : decode cX8_move 10 = .ok (.iaload, 1) := by decide +kernel
theorem dX8_move_11 : decode cX8_move 11 = .ok (.iastore, 1) := by decide +kernel
theorem dX8_move_12 : decode cX8_move 12 = .ok (.aload_n 0, 1) := by decide +kernel
theorem dX8_move_13 : decode cX8_move 13 = .ok (.getfield 15, 3) := by decide +kernel
theorem dX8_move_16 : decode cX8_move 16 = .ok (.iload_n 2, 1) := by decide +kernel
theorem dX8_move_17 : decode cX8_move 17 = .ok (.aload_n 0, 1) := by decide +kernel
theorem dX8_move_18 : decode cX8_move 18 = .ok (.getfield 15, 3) := by decide +kernel
theorem dX8_move_21 : decode cX8_move 21 = .ok (.iload_n 1, 1) := by decide +kernel
theorem dX8_move_22 : decode cX8_move 22 = .ok (.iaload, 1) := by decide +kernel
theorem dX8_move_23 : decode cX8_move 23 = .ok (.iastore, 1) := by decide +kernel
theorem dX8_move_24 : decode cX8_move 24 = .ok (.aload_n 0, 1) := by decide +kernel
theorem dX8_move_25 : decode cX8_move 25 = .ok (.getfield 18, 3) := by decide +kernel
theorem dX8_move_28 : decode cX8_move 28 = .ok (.iload_n 2, 1) := by decide +kernel
theorem dX8_move_29 : decode cX8_move 29 = .ok (.aload_n 0, 1) := by decide +kernel
theorem dX8_move_30 : decode cX8_move 30 = .ok (.getfield 18, 3) := by decide +kernel
theorem dX8_move_33 : decode cX8_move 33 = .ok (.iload_n 1, 1) := by decide +kernel
theorem dX8_move_34 : decode cX8_move 34 = .ok (.iaload, 1) := by decide +kernel
theorem dX8_move_35 : decode cX8_move 35 = .ok (.iastore, 1) := by decide +kernel
theorem dX8_move_36 : decode cX8_move 36 = .ok (.return_, 1) := by decide +kernel
theorem dX8_rainIn_0 : decode cX8_rainIn 0 = .ok (.iconst 0, 1) := by decide +kernel
theorem dX8_rainIn_1 : decode cX8_rainIn 1 = .ok (.istore_n 2, 1) := by decide +kernel
theorem dX8_rainIn_2 : decode cX8_rainIn 2 = .ok (.iconst 0, 1) := by decide +kernel
theorem dX8_rainIn_3 : decode cX8_rainIn 3 = .ok (.istore_n 3, 1) := by decide +kernel
theorem dX8_rainIn_4 : decode cX8_rainIn 4 = .ok (.iload_n 3, 1) := by decide +kernel
theorem dX8_rainIn_5 : decode cX8_rainIn 5 = .ok (.aload_n 0, 1) := by decide +kernel
theorem dX8_rainIn_6 : decode cX8_rainIn 6 = .ok (.getfield 25, 3) := by decide +kernel
theorem dX8_rainIn_9 : decode cX8_rainIn 9 = .ok (.if_icmp .ge 45, 3) := by decide +kernel
theorem dX8_rainIn_12 : decode cX8_rainIn 12 = .ok (.aload_n 0, 1) := by decide +kernel
theorem dX8_rainIn_13 : decode cX8_rainIn 13 = .ok (.getfield 9, 3) := by decide +kernel
theorem dX8_rainIn_16 : decode cX8_rainIn 16 = .ok (.iload_n 3, 1) := by decide +kernel
theorem dX8_rainIn_17 : decode cX8_rainIn 17 = .ok (.iaload, 1) := by decide +kernel
theorem dX8_rainIn_18 : decode cX8_rainIn 18 = .ok (.iload_n 1, 1) := by decide +kernel
theorem dX8_rainIn_19 : decode cX8_rainIn 19 = .ok (.if_icmp .gt 29, 3) := by decide +kernel
theorem dX8_rainIn_22 : decode cX8_rainIn 22 = .ok (.iload_n 1, 1) := by decide +kernel
theorem dX8_rainIn_23 : decode cX8_rainIn 23 = .ok (.aload_n 0, 1) := by decide +kernel
theorem dX8_rainIn_24 : decode cX8_rainIn 24 = .ok (.getfield 9, 3) := by decide +kernel
theorem dX8_rainIn_27 : decode cX8_rainIn 27 = .ok (.iload_n 3, 1) := by decide +kernel
theorem dX8_rainIn_28 : decode cX8_rainIn 28 = .ok (.iaload, 1) := by decide +kernel
theorem dX8_rainIn_29 : decode cX8_rainIn 29 = .ok (.aload_n 0, 1) := by decide +kernel
theorem dX8_rainIn_30 : decode cX8_rainIn 30 = .ok (.getfield 15, 3) := by decide +kernel
theorem dX8_rainIn_33 : decode cX8_rainIn 33 = .ok (.iload_n 3, 1) := by decide +kernel
theorem dX8_rainIn_34 : decode cX8_rainIn 34 = .ok (.iaload, 1) := by decide +kernel
theorem dX8_rainIn_35 : decode cX8_rainIn 35 = .ok (.iadd, 1) := by decide +kernel
theorem dX8_rainIn_36 : decode cX8_rainIn 36 = .ok (.if_icmp .ge 12, 3) := by decide +kernel
theorem dX8_rainIn_39 : decode cX8_rainIn 39 = .ok (.iload_n 2, 1) := by decide +kernel
theorem dX8_rainIn_40 : decode cX8_rainIn 40 = .ok (.aload_n 0, 1) := by decide +kernel
theorem dX8_rainIn_41 : decode cX8_rainIn 41 = .ok (.getfield 18, 3) := by decide +kernel
theorem dX8_rainIn_44 : decode cX8_rainIn 44 = .ok (.iload_n 3, 1) := by decide +kernel
theorem dX8_rainIn_45 : decode cX8_rainIn 45 = .ok (.iaload, 1) := by decide +kernel
theorem dX8_rainIn_46 : decode cX8_rainIn 46 = .ok (.iadd, 1) := by decide +kernel
theorem dX8_rainIn_47 : decode cX8_rainIn 47 = .ok (.istore_n 2, 1) := by decide +kernel
theorem dX8_rainIn_48 : decode cX8_rainIn 48 = .ok (.iinc 3 1, 3) := by decide +kernel
theorem dX8_rainIn_51 : decode cX8_rainIn 51 = .ok (.goto (-47), 3) := by decide +kernel
theorem dX8_rainIn_54 : decode cX8_rainIn 54 = .ok (.iload_n 2, 1) := by decide +kernel
theorem dX8_rainIn_55 : decode cX8_rainIn 55 = .ok (.ireturn, 1) := by decide +kernel
theorem dX8_ticksToCome_0 : decode cX8_ticksToCome 0 = .ok (.aload_n 0, 1) := by decide +kernel
theorem dX8_ticksToCome_1 : decode cX8_ticksToCome 1 = .ok (.iload_n 1, 1) := by decide +kernel
theorem dX8_ticksToCome_2 : decode cX8_ticksToCome 2 = .ok (.invokevirtual 33, 3) := by decide +kernel
theorem dX8_ticksToCome_5 : decode cX8_ticksToCome 5 = .ok (.ifCond .ne 5, 3) := by decide +kernel
theorem dX8_ticksToCome_8 : decode cX8_ticksToCome 8 = .ok (.iconst 0, 1) := by decide +kernel
theorem dX8_ticksToCome_9 : decode cX8_ticksToCome 9 = .ok (.ireturn, 1) := by decide +kernel
theorem dX8_ticksToCome_10 : decode cX8_ticksToCome 10 = .ok (.aload_n 0, 1) := by decide +kernel
theorem dX8_ticksToCome_11 : decode cX8_ticksToCome 11 = .ok (.getfield 9, 3) := by decide +kernel
theorem dX8_ticksToCome_14 : decode cX8_ticksToCome 14 = .ok (.iload_n 1, 1) := by decide +kernel
theorem dX8_ticksToCome_15 : decode cX8_ticksToCome 15 = .ok (.iaload, 1) := by decide +kernel
theorem dX8_ticksToCome_16 : decode cX8_ticksToCome 16 = .ok (.aload_n 0, 1) := by decide +kernel
theorem dX8_ticksToCome_17 : decode cX8_ticksToCome 17 = .ok (.getfield 15, 3) := by decide +kernel
theorem dX8_ticksToCome_20 : decode cX8_ticksToCome 20 = .ok (.iload_n 1, 1) := by decide +kernel
theorem dX8_ticksToCome_21 : decode cX8_ticksToCome 21 = .ok (.iaload, 1) := by decide +kernel
theorem dX8_ticksToCome_22 : decode cX8_ticksToCome 22 = .ok (.iadd, 1) := by decide +kernel
theorem dX8_ticksToCome_23 : decode cX8_ticksToCome 23 = .ok (.aload_n 0, 1) := by decide +kernel
theorem dX8_ticksToCome_24 : decode cX8_ticksToCome 24 = .ok (.getfield 9, 3) := by decide +kernel
theorem dX8_ticksToCome_27 : decode cX8_ticksToCome 27 = .ok (.iload_n 1, 1) := by decide +kernel
theorem dX8_ticksToCome_28 : decode cX8_ticksToCome 28 = .ok (.iaload, 1) := by decide +kernel
theorem dX8_ticksToCome_29 : decode cX8_ticksToCome 29 = .ok (.iload_n 2, 1) := by decide +kernel
theorem dX8_ticksToCome_30 : decode cX8_ticksToCome 30 = .ok (.invokestatic 37, 3) := by decide +kernel
theorem dX8_ticksToCome_33 : decode cX8_ticksToCome 33 = .ok (.isub, 1) := by decide +kernel
theorem dX8_ticksToCome_34 : decode cX8_ticksToCome 34 = .ok (.ireturn, 1) := by decide +kernel
theorem dX9_init_0 : decode cX9_init 0 = .ok (.aload_n 0, 1) := by decide +kernel
theorem dX9_init_1 : decode cX9_init 1 = .ok (.invokespecial 3, 3) := by decide +kernel
theorem dX9_init_4 : decode cX9_init 4 = .ok (.aload_n 0, 1) := by decide +kernel
theorem dX9_init_5 : decode cX9_init 5 = .ok (.bipush 8, 2) := by decide +kernel
theorem dX9_init_7 : decode cX9_init 7 = .ok (.newarray .int, 2) := by decide +kernel
theorem dX9_init_9 : decode cX9_init 9 = .ok (.putfield 9, 3) := by decide +kernel
theorem dX9_init_12 : decode cX9_init 12 = .ok (.aload_n 0, 1) := by decide +kernel
theorem dX9_init_13 : decode cX9_init 13 = .ok (.new 15, 3) := by decide +kernel
theorem dX9_init_16 : decode cX9_init 16 = .ok (.dup, 1) := by decide +kernel
theorem dX9_init_17 : decode cX9_init 17 = .ok (.invokespecial 17, 3) := by decide +kernel
theorem dX9_init_20 : decode cX9_init 20 = .ok (.putfield 18, 3) := by decide +kernel
theorem dX9_init_23 : decode cX9_init 23 = .ok (.aload_n 0, 1) := by decide +kernel
theorem dX9_init_24 : decode cX9_init 24 = .ok (.new 22, 3) := by decide +kernel
theorem dX9_init_27 : decode cX9_init 27 = .ok (.dup, 1) := by decide +kernel
theorem dX9_init_28 : decode cX9_init 28 = .ok (.invokespecial 24, 3) := by decide +kernel
theorem dX9_init_31 : decode cX9_init 31 = .ok (.putfield 25, 3) := by decide +kernel
theorem dX9_init_34 : decode cX9_init 34 = .ok (.aload_n 0, 1) := by decide +kernel
theorem dX9_init_35 : decode cX9_init 35 = .ok (.new 29, 3) := by decide +kernel
theorem dX9_init_38 : decode cX9_init 38 = .ok (.dup, 1) := by decide +kernel
theorem dX9_init_39 : decode cX9_init 39 = .ok (.invokespecial 31, 3) := by decide +kernel
theorem dX9_init_42 : decode cX9_init 42 = .ok (.putfield 32, 3) := by decide +kernel
theorem dX9_init_45 : decode cX9_init 45 = .ok (.aload_n 0, 1) := by decide +kernel
theorem dX9_init_46 : decode cX9_init 46 = .ok (.new 36, 3) := by decide +kernel
theorem dX9_init_49 : decode cX9_init 49 = .ok (.dup, 1) := by decide +kernel
theorem dX9_init_50 : decode cX9_init 50 = .ok (.invokespecial 38, 3) := by decide +kernel
theorem dX9_init_53 : decode cX9_init 53 = .ok (.putfield 39, 3) := by decide +kernel
theorem dX9_init_56 : decode cX9_init 56 = .ok (.aload_n 0, 1) := by decide +kernel
theorem dX9_init_57 : decode cX9_init 57 = .ok (.new 43, 3) := by decide +kernel
theorem dX9_init_60 : decode cX9_init 60 = .ok (.dup, 1) := by decide +kernel
theorem dX9_init_61 : decode cX9_init 61 = .ok (.invokespecial 45, 3) := by decide +kernel
theorem dX9_init_64 : decode cX9_init 64 = .ok (.putfield 46, 3) := by decide +kernel
theorem dX9_init_67 : decode cX9_init 67 = .ok (.aload_n 0, 1) := by decide +kernel
theorem dX9_init_68 : decode cX9_init 68 = .ok (.new 50, 3) := by decide +kernel
theorem dX9_init_71 : decode cX9_init 71 = .ok (.dup, 1) := by decide +kernel
theorem dX9_init_72 : decode cX9_init 72 = .ok (.invokespecial 52, 3) := by decide +kernel
theorem dX9_init_75 : decode cX9_init 75 = .ok (.putfield 53, 3) := by decide +kernel
theorem dX9_init_78 : decode cX9_init 78 = .ok (.getstatic 57, 3) := by decide +kernel
theorem dX9_init_81 : decode cX9_init 81 = .ok (.aload_n 0, 1) := by decide +kernel
theorem dX9_init_82 : decode cX9_init 82 = .ok (.getfield 9, 3) := by decide +kernel
theorem dX9_init_85 : decode cX9_init 85 = .ok (.invokestatic 60, 3) := by decide +kernel
theorem dX9_init_88 : decode cX9_init 88 = .ok (.return_, 1) := by decide +kernel
theorem dX9_copyFrom_0 : decode cX9_copyFrom 0 = .ok (.aload_n 1, 1) := by decide +kernel
theorem dX9_copyFrom_1 : decode cX9_copyFrom 1 = .ok (.getfield 9, 3) := by decide +kernel
theorem dX9_copyFrom_4 : decode cX9_copyFrom 4 = .ok (.aload_n 0, 1) := by decide +kernel
theorem dX9_copyFrom_5 : decode cX9_copyFrom 5 = .ok (.getfield 9, 3) := by decide +kernel
theorem dX9_copyFrom_8 : decode cX9_copyFrom 8 = .ok (.invokestatic 60, 3) := by decide +kernel
theorem dX9_copyFrom_11 : decode cX9_copyFrom 11 = .ok (.aload_n 0, 1) := by decide +kernel
theorem dX9_copyFrom_12 : decode cX9_copyFrom 12 = .ok (.getfield 18, 3) := by decide +kernel
theorem dX9_copyFrom_15 : decode cX9_copyFrom 15 = .ok (.aload_n 1, 1) := by decide +kernel
theorem dX9_copyFrom_16 : decode cX9_copyFrom 16 = .ok (.getfield 18, 3) := by decide +kernel
theorem dX9_copyFrom_19 : decode cX9_copyFrom 19 = .ok (.invokevirtual 64, 3) := by decide +kernel
theorem dX9_copyFrom_22 : decode cX9_copyFrom 22 = .ok (.aload_n 0, 1) := by decide +kernel
theorem dX9_copyFrom_23 : decode cX9_copyFrom 23 = .ok (.getfield 25, 3) := by decide +kernel
theorem dX9_copyFrom_26 : decode cX9_copyFrom 26 = .ok (.aload_n 1, 1) := by decide +kernel
theorem dX9_copyFrom_27 : decode cX9_copyFrom 27 = .ok (.getfield 25, 3) := by decide +kernel
end
section
theorem dX9_copyFrom_30 : decode cX9_copyFrom 30 = .ok (.invokevirtual 68, 3) := by decide +kernel
theorem dX9_copyFrom_33 : decode cX9_copyFrom 33 = .ok (.aload_n 0, 1) := by decide +kernel
theorem dX9_copyFrom_34 : decode cX9_copyFrom 34 = .ok (.getfield 32, 3) := by decide +kernel
theorem dX9_copyFrom_37 : decode cX9_copyFrom 37 = .ok (.aload_n 1, 1) := by decide +kernel
theorem dX9_copyFrom_38 : decode cX9_copyFrom 38 = .ok (.getfield 32, 3) := by decide +kernel
theorem dX9_copyFrom_41 : decode cX9_copyFrom 41 = .ok (.invokevirtual 71, 3) := by decide +kernel
theorem dX9_copyFrom_44 : decode cX9_copyFrom 44 = .ok (.aload_n 0, 1) := by decide +kernel
theorem dX9_copyFrom_45 : decode cX9_copyFrom 45 = .ok (.getfield 39, 3) := by decide +kernel
theorem dX9_copyFrom_48 : decode cX9_copyFrom 48 = .ok (.aload_n 1, 1) := by decide +kernel
theorem dX9_copyFrom_49 : decode cX9_copyFrom 49 = .ok (.getfield 39, 3) := by decide +kernel
theorem dX9_copyFrom_52 : decode cX9_copyFrom 52 = .ok (.invokevirtual 74, 3) := by decide +kernel
theorem dX9_copyFrom_55 : decode cX9_copyFrom 55 = .ok (.aload_n 0, 1) := by decide +kernel
theorem dX9_copyFrom_56 : decode cX9_copyFrom 56 = .ok (.getfield 46, 3) := by decide +kernel
theorem dX9_copyFrom_59 : decode cX9_copyFrom 59 = .ok (.aload_n 1, 1) := by decide +kernel
theorem dX9_copyFrom_60 : decode cX9_copyFrom 60 = .ok (.getfield 46, 3) := by decide +kernel
theorem dX9_copyFrom_63 : decode cX9_copyFrom 63 = .ok (.invokevirtual 77, 3) := by decide +kernel
theorem dX9_copyFrom_66 : decode cX9_copyFrom 66 = .ok (.aload_n 0, 1) := by decide +kernel
theorem dX9_copyFrom_67 : decode cX9_copyFrom 67 = .ok (.getfield 53, 3) := by decide +kernel
theorem dX9_copyFrom_70 : decode cX9_copyFrom 70 = .ok (.aload_n 1, 1) := by decide +kernel
theorem dX9_copyFrom_71 : decode cX9_copyFrom 71 = .ok (.getfield 53, 3) := by decide +kernel
theorem dX9_copyFrom_74 : decode cX9_copyFrom 74 = .ok (.invokevirtual 80, 3) := by decide +kernel
theorem dX9_copyFrom_77 : decode cX9_copyFrom 77 = .ok (.aload_n 0, 1) := by decide +kernel
theorem dX9_copyFrom_78 : decode cX9_copyFrom 78 = .ok (.aload_n 1, 1) := by decide +kernel
theorem dX9_copyFrom_79 : decode cX9_copyFrom 79 = .ok (.getfield 83, 3) := by decide +kernel
theorem dX9_copyFrom_82 : decode cX9_copyFrom 82 = .ok (.putfield 83, 3) := by decide +kernel
theorem dX9_copyFrom_85 : decode cX9_copyFrom 85 = .ok (.aload_n 0, 1) := by decide +kernel
theorem dX9_copyFrom_86 : decode cX9_copyFrom 86 = .ok (.aload_n 1, 1) := by decide +kernel
theorem dX9_copyFrom_87 : decode cX9_copyFrom 87 = .ok (.getfield 87, 3) := by decide +kernel
theorem dX9_copyFrom_90 : decode cX9_copyFrom 90 = .ok (.putfield 87, 3) := by decide +kernel
theorem dX9_copyFrom_93 : decode cX9_copyFrom 93 = .ok (.return_, 1) := by decide +kernel
theorem dX9_passTicks_0 : decode cX9_passTicks 0 = .ok (.iconst 0, 1) := by decide +kernel
theorem dX9_passTicks_1 : decode cX9_passTicks 1 = .ok (.istore_n 2, 1) := by decide +kernel
theorem dX9_passTicks_2 : decode cX9_passTicks 2 = .ok (.iconst 0, 1) := by decide +kernel
theorem dX9_passTicks_3 : decode cX9_passTicks 3 = .ok (.istore_n 3, 1) := by decide +kernel
theorem dX9_passTicks_4 : decode cX9_passTicks 4 = .ok (.iload_n 3, 1) := by decide +kernel
theorem dX9_passTicks_5 : decode cX9_passTicks 5 = .ok (.iload_n 1, 1) := by decide +kernel
theorem dX9_passTicks_6 : decode cX9_passTicks 6 = .ok (.if_icmp .ge 19, 3) := by decide +kernel
theorem dX9_passTicks_9 : decode cX9_passTicks 9 = .ok (.aload_n 0, 1) := by decide +kernel
theorem dX9_passTicks_10 : decode cX9_passTicks 10 = .ok (.invokevirtual 90, 3) := by decide +kernel
theorem dX9_passTicks_13 : decode cX9_passTicks 13 = .ok (.ifCond .eq 6, 3) := by decide +kernel
theorem dX9_passTicks_16 : decode cX9_passTicks 16 = .ok (.iinc 2 1, 3) := by decide +kernel
theorem dX9_passTicks_19 : decode cX9_passTicks 19 = .ok (.iinc 3 1, 3) := by decide +kernel
theorem dX9_passTicks_22 : decode cX9_passTicks 22 = .ok (.goto (-18), 3) := by decide +kernel
theorem dX9_passTicks_25 : decode cX9_passTicks 25 = .ok (.iload_n 2, 1) := by decide +kernel
theorem dX9_passTicks_26 : decode cX9_passTicks 26 = .ok (.ireturn, 1) := by decide +kernel
theorem dX9_passTick_0 : decode cX9_passTick 0 = .ok (.aload_n 0, 1) := by decide +kernel
theorem dX9_passTick_1 : decode cX9_passTick 1 = .ok (.getfield 18, 3) := by decide +kernel
theorem dX9_passTick_4 : decode cX9_passTick 4 = .ok (.aload_n 0, 1) := by decide +kernel
theorem dX9_passTick_5 : decode cX9_passTick 5 = .ok (.getfield 83, 3) := by decide +kernel
theorem dX9_passTick_8 : decode cX9_passTick 8 = .ok (.invokevirtual 94, 3) := by decide +kernel
theorem dX9_passTick_11 : decode cX9_passTick 11 = .ok (.istore_n 1, 1) := by decide +kernel
theorem dX9_passTick_12 : decode cX9_passTick 12 = .ok (.aload_n 0, 1) := by decide +kernel
theorem dX9_passTick_13 : decode cX9_passTick 13 = .ok (.dup, 1) := by decide +kernel
theorem dX9_passTick_14 : decode cX9_passTick 14 = .ok (.getfield 87, 3) := by decide +kernel
theorem dX9_passTick_17 : decode cX9_passTick 17 = .ok (.iload_n 1, 1) := by decide +kernel
theorem dX9_passTick_18 : decode cX9_passTick 18 = .ok (.iadd, 1) := by decide +kernel
theorem dX9_passTick_19 : decode cX9_passTick 19 = .ok (.putfield 87, 3) := by decide +kernel
theorem dX9_passTick_22 : decode cX9_passTick 22 = .ok (.aload_n 0, 1) := by decide +kernel
theorem dX9_passTick_23 : decode cX9_passTick 23 = .ok (.getfield 25, 3) := by decide +kernel
theorem dX9_passTick_26 : decode cX9_passTick 26 = .ok (.iload_n 1, 1) := by decide +kernel
theorem dX9_passTick_27 : decode cX9_passTick 27 = .ok (.aload_n 0, 1) := by decide +kernel
theorem dX9_passTick_28 : decode cX9_passTick 28 = .ok (.getfield 9, 3) := by decide +kernel
theorem dX9_passTick_31 : decode cX9_passTick 31 = .ok (.iconst 2, 1) := by decide +kernel
theorem dX9_passTick_32 : decode cX9_passTick 32 = .ok (.iaload, 1) := by decide +kernel
theorem dX9_passTick_33 : decode cX9_passTick 33 = .ok (.aload_n 0, 1) := by decide +kernel
theorem dX9_passTick_34 : decode cX9_passTick 34 = .ok (.getfield 9, 3) := by decide +kernel
theorem dX9_passTick_37 : decode cX9_passTick 37 = .ok (.iconst 3, 1) := by decide +kernel
theorem dX9_passTick_38 : decode cX9_passTick 38 = .ok (.iaload, 1) := by decide +kernel
theorem dX9_passTick_39 : decode cX9_passTick 39 = .ok (.invokevirtual 98, 3) := by decide +kernel
theorem dX9_passTick_42 : decode cX9_passTick 42 = .ok (.istore_n 2, 1) := by decide +kernel
theorem dX9_passTick_43 : decode cX9_passTick 43 = .ok (.aload_n 0, 1) := by decide +kernel
theorem dX9_passTick_44 : decode cX9_passTick 44 = .ok (.getfield 32, 3) := by decide +kernel
theorem dX9_passTick_47 : decode cX9_passTick 47 = .ok (.iload_n 2, 1) := by decide +kernel
theorem dX9_passTick_48 : decode cX9_passTick 48 = .ok (.iload_n 1, 1) := by decide +kernel
theorem dX9_passTick_49 : decode cX9_passTick 49 = .ok (.ifCond .ne 7, 3) := by decide +kernel
theorem dX9_passTick_52 : decode cX9_passTick 52 = .ok (.iconst 1, 1) := by decide +kernel
theorem dX9_passTick_53 : decode cX9_passTick 53 = .ok (.goto 4, 3) := by decide +kernel
theorem dX9_passTick_56 : decode cX9_passTick 56 = .ok (.iconst 0, 1) := by decide +kernel
theorem dX9_passTick_57 : decode cX9_passTick 57 = .ok (.aload_n 0, 1) := by decide +kernel
theorem dX9_passTick_58 : decode cX9_passTick 58 = .ok (.getfield 9, 3) := by decide +kernel
theorem dX9_passTick_61 : decode cX9_passTick 61 = .ok (.iconst 0, 1) := by decide +kernel
theorem dX9_passTick_62 : decode cX9_passTick 62 = .ok (.iaload, 1) := by decide +kernel
theorem dX9_passTick_63 : decode cX9_passTick 63 = .ok (.aload_n 0, 1) := by decide +kernel
theorem dX9_passTick_64 : decode cX9_passTick 64 = .ok (.getfield 9, 3) := by decide +kernel
theorem dX9_passTick_67 : decode cX9_passTick 67 = .ok (.iconst 1, 1) := by decide +kernel
theorem dX9_passTick_68 : decode cX9_passTick 68 = .ok (.iaload, 1) := by decide +kernel
theorem dX9_passTick_69 : decode cX9_passTick 69 = .ok (.aload_n 0, 1) := by decide +kernel
theorem dX9_passTick_70 : decode cX9_passTick 70 = .ok (.getfield 9, 3) := by decide +kernel
theorem dX9_passTick_73 : decode cX9_passTick 73 = .ok (.iconst 4, 1) := by decide +kernel
theorem dX9_passTick_74 : decode cX9_passTick 74 = .ok (.iaload, 1) := by decide +kernel
theorem dX9_passTick_75 : decode cX9_passTick 75 = .ok (.invokevirtual 101, 3) := by decide +kernel
theorem dX9_passTick_78 : decode cX9_passTick 78 = .ok (.istore_n 3, 1) := by decide +kernel
theorem dX9_passTick_79 : decode cX9_passTick 79 = .ok (.iload_n 3, 1) := by decide +kernel
theorem dX9_passTick_80 : decode cX9_passTick 80 = .ok (.iconst (-1), 1) := by decide +kernel
theorem dX9_passTick_81 : decode cX9_passTick 81 = .ok (.if_icmp .eq 19, 3) := by decide +kernel
theorem dX9_passTick_84 : decode cX9_passTick 84 = .ok (.aload_n 0, 1) := by decide +kernel
theorem dX9_passTick_85 : decode cX9_passTick 85 = .ok (.getfield 53, 3) := by decide +kernel
theorem dX9_passTick_88 : decode cX9_passTick 88 = .ok (.aload_n 0, 1) := by decide +kernel
theorem dX9_passTick_89 : decode cX9_passTick 89 = .ok (.getfield 83, 3) := by decide +kernel
theorem dX9_passTick_92 : decode cX9_passTick 92 = .ok (.aload_n 0, 1) := by decide +kernel
theorem dX9_passTick_93 : decode cX9_passTick 93 = .ok (.invokevirtual 104, 3) := by decide +kernel
theorem dX9_passTick_96 : decode cX9_passTick 96 = .ok (.iload_n 3, 1) := by decide +kernel
theorem dX9_passTick_97 : decode cX9_passTick 97 = .ok (.invokevirtual 108, 3) := by decide +kernel
theorem dX9_passTick_100 : decode cX9_passTick 100 = .ok (.aload_n 0, 1) := by decide +kernel
theorem dX9_passTick_101 : decode cX9_passTick 101 = .ok (.getfield 39, 3) := by decide +kernel
theorem dX9_passTick_104 : decode cX9_passTick 104 = .ok (.invokevirtual 112, 3) := by decide +kernel
theorem dX9_passTick_107 : decode cX9_passTick 107 = .ok (.aload_n 0, 1) := by decide +kernel
theorem dX9_passTick_108 : decode cX9_passTick 108 = .ok (.dup, 1) := by decide +kernel
theorem dX9_passTick_109 : decode cX9_passTick 109 = .ok (.getfield 83, 3) := by decide +kernel
theorem dX9_passTick_112 : decode cX9_passTick 112 = .ok (.iconst 1, 1) := by decide +kernel
theorem dX9_passTick_113 : decode cX9_passTick 113 = .ok (.iadd, 1) := by decide +kernel
theorem dX9_passTick_114 : decode cX9_passTick 114 = .ok (.putfield 83, 3) := by decide +kernel
theorem dX9_passTick_117 : decode cX9_passTick 117 = .ok (.aload_n 0, 1) := by decide +kernel
theorem dX9_passTick_118 : decode cX9_passTick 118 = .ok (.getfield 18, 3) := by decide +kernel
theorem dX9_passTick_121 : decode cX9_passTick 121 = .ok (.aload_n 0, 1) := by decide +kernel
theorem dX9_passTick_122 : decode cX9_passTick 122 = .ok (.getfield 83, 3) := by decide +kernel
theorem dX9_passTick_125 : decode cX9_passTick 125 = .ok (.invokevirtual 114, 3) := by decide +kernel
theorem dX9_passTick_128 : decode cX9_passTick 128 = .ok (.iload_n 3, 1) := by decide +kernel
theorem dX9_passTick_129 : decode cX9_passTick 129 = .ok (.iconst (-1), 1) := by decide +kernel
theorem dX9_passTick_130 : decode cX9_passTick 130 = .ok (.if_icmp .eq 7, 3) := by decide +kernel
theorem dX9_passTick_133 : decode cX9_passTick 133 = .ok (.iconst 1, 1) := by decide +kernel
theorem dX9_passTick_134 : decode cX9_passTick 134 = .ok (.goto 4, 3) := by decide +kernel
theorem dX9_passTick_137 : decode cX9_passTick 137 = .ok (.iconst 0, 1) := by decide +kernel
theorem dX9_passTick_138 : decode cX9_passTick 138 = .ok (.ireturn, 1) := by decide +kernel
theorem dX9_drumPlace_0 : decode cX9_drumPlace 0 = .ok (.aload_n 0, 1) := by decide +kernel
theorem dX9_drumPlace_1 : decode cX9_drumPlace 1 = .ok (.getfield 46, 3) := by decide +kernel
theorem dX9_drumPlace_4 : decode cX9_drumPlace 4 = .ok (.aload_n 0, 1) := by decide +kernel
theorem dX9_drumPlace_5 : decode cX9_drumPlace 5 = .ok (.getfield 39, 3) := by decide +kernel
theorem dX9_drumPlace_8 : decode cX9_drumPlace 8 = .ok (.getfield 118, 3) := by decide +kernel
theorem dX9_drumPlace_11 : decode cX9_drumPlace 11 = .ok (.aload_n 0, 1) := by decide +kernel
theorem dX9_drumPlace_12 : decode cX9_drumPlace 12 = .ok (.getfield 9, 3) := by decide +kernel
theorem dX9_drumPlace_15 : decode cX9_drumPlace 15 = .ok (.iconst 5, 1) := by decide +kernel
theorem dX9_drumPlace_16 : decode cX9_drumPlace 16 = .ok (.iaload, 1) := by decide +kernel
theorem dX9_drumPlace_17 : decode cX9_drumPlace 17 = .ok (.invokevirtual 121, 3) := by decide +kernel
theorem dX9_drumPlace_20 : decode cX9_drumPlace 20 = .ok (.ireturn, 1) := by decide +kernel
theorem dX9_accountOf_0 : decode cX9_accountOf 0 = .ok (.iload_n 1, 1) := by decide +kernel
theorem dX9_accountOf_1 : decode cX9_accountOf 1 = .ok (.tableswitch 60 0 3 #[31, 36, 44, 52], 31) := by decide +kernel
theorem dX9_accountOf_32 : decode cX9_accountOf 32 = .ok (.aload_n 0, 1) := by decide +kernel
theorem dX9_accountOf_33 : decode cX9_accountOf 33 = .ok (.getfield 87, 3) := by decide +kernel
theorem dX9_accountOf_36 : decode cX9_accountOf 36 = .ok (.ireturn, 1) := by decide +kernel
theorem dX9_accountOf_37 : decode cX9_accountOf 37 = .ok (.aload_n 0, 1) := by decide +kernel
theorem dX9_accountOf_38 : decode cX9_accountOf 38 = .ok (.getfield 32, 3) := by decide +kernel
theorem dX9_accountOf_41 : decode cX9_accountOf 41 = .ok (.getfield 125, 3) := by decide +kernel
theorem dX9_accountOf_44 : decode cX9_accountOf 44 = .ok (.ireturn, 1) := by decide +kernel
theorem dX9_accountOf_45 : decode cX9_accountOf 45 = .ok (.aload_n 0, 1) := by decide +kernel
theorem dX9_accountOf_46 : decode cX9_accountOf 46 = .ok (.getfield 32, 3) := by decide +kernel
theorem dX9_accountOf_49 : decode cX9_accountOf 49 = .ok (.getfield 128, 3) := by decide +kernel
theorem dX9_accountOf_52 : decode cX9_accountOf 52 = .ok (.ireturn, 1) := by decide +kernel
theorem dX9_accountOf_53 : decode cX9_accountOf 53 = .ok (.aload_n 0, 1) := by decide +kernel
theorem dX9_accountOf_54 : decode cX9_accountOf 54 = .ok (.getfield 32, 3) := by decide +kernel
theorem dX9_accountOf_57 : decode cX9_accountOf 57 = .ok (.getfield 131, 3) := by decide +kernel
theorem dX9_accountOf_60 : decode cX9_accountOf 60 = .ok (.ireturn, 1) := by decide +kernel
theorem dX9_accountOf_61 : decode cX9_accountOf 61 = .ok (.aload_n 0, 1) := by decide +kernel
theorem dX9_accountOf_62 : decode cX9_accountOf 62 = .ok (.getfield 25, 3) := by decide +kernel
theorem dX9_accountOf_65 : decode cX9_accountOf 65 = .ok (.getfield 134, 3) := by decide +kernel
theorem dX9_accountOf_68 : decode cX9_accountOf 68 = .ok (.aload_n 0, 1) := by decide +kernel
theorem dX9_accountOf_69 : decode cX9_accountOf 69 = .ok (.getfield 32, 3) := by decide +kernel
theorem dX9_accountOf_72 : decode cX9_accountOf 72 = .ok (.getfield 137, 3) := by decide +kernel
theorem dX9_accountOf_75 : decode cX9_accountOf 75 = .ok (.iadd, 1) := by decide +kernel
theorem dX9_accountOf_76 : decode cX9_accountOf 76 = .ok (.ireturn, 1) := by decide +kernel
theorem dX10_init_0 : decode cX10_init 0 = .ok (.aload_n 0, 1) := by decide +kernel
theorem dX10_init_1 : decode cX10_init 1 = .ok (.invokespecial 3, 3) := by decide +kernel
theorem dX10_init_4 : decode cX10_init 4 = .ok (.aload_n 0, 1) := by decide +kernel
theorem dX10_init_5 : decode cX10_init 5 = .ok (.bipush 100, 2) := by decide +kernel
theorem dX10_init_7 : decode cX10_init 7 = .ok (.newarray .char, 2) := by decide +kernel
theorem dX10_init_9 : decode cX10_init 9 = .ok (.putfield 9, 3) := by decide +kernel
theorem dX10_init_12 : decode cX10_init 12 = .ok (.return_, 1) := by decide +kernel
theorem dX10_append_0 : decode cX10_append 0 = .ok (.aload_n 0, 1) := by decide +kernel
theorem dX10_append_1 : decode cX10_append 1 = .ok (.getfield 15, 3) := by decide +kernel
theorem dX10_append_4 : decode cX10_append 4 = .ok (.bipush 100, 2) := by decide +kernel
theorem dX10_append_6 : decode cX10_append 6 = .ok (.if_icmp .ge 23, 3) := by decide +kernel
theorem dX10_append_9 : decode cX10_append 9 = .ok (.aload_n 0, 1) := by decide +kernel
theorem dX10_append_10 : decode cX10_append 10 = .ok (.getfield 9, 3) := by decide +kernel
theorem dX10_append_13 : decode cX10_append 13 = .ok (.aload_n 0, 1) := by decide +kernel
theorem dX10_append_14 : decode cX10_append 14 = .ok (.getfield 15, 3) := by decide +kernel
theorem dX10_append_17 : decode cX10_append 17 = .ok (.iload_n 1, 1) := by decide +kernel
theorem dX10_append_18 : decode cX10_append 18 = .ok (.castore, 1) := by decide +kernel
theorem dX10_append_19 : decode cX10_append 19 = .ok (.aload_n 0, 1) := by decide +kernel
theorem dX10_append_20 : decode cX10_append 20 = .ok (.dup, 1) := by decide +kernel
theorem dX10_append_21 : decode cX10_append 21 = .ok (.getfield 15, 3) := by decide +kernel
theorem dX10_append_24 : decode cX10_append 24 = .ok (.iconst 1, 1) := by decide +kernel
theorem dX10_append_25 : decode cX10_append 25 = .ok (.iadd, 1) := by decide +kernel
theorem dX10_append_26 : decode cX10_append 26 = .ok (.putfield 15, 3) := by decide +kernel
theorem dX10_append_29 : decode cX10_append 29 = .ok (.return_, 1) := by decide +kernel
theorem dX10_characterAt_0 : decode cX10_characterAt 0 = .ok (.iload_n 1, 1) := by decide +kernel
theorem dX10_characterAt_1 : decode cX10_characterAt 1 = .ok (.ifCond .lt 20, 3) := by decide +kernel
theorem dX10_characterAt_4 : decode cX10_characterAt 4 = .ok (.iload_n 1, 1) := by decide +kernel
theorem dX10_characterAt_5 : decode cX10_characterAt 5 = .ok (.aload_n 0, 1) := by decide +kernel
theorem dX10_characterAt_6 : decode cX10_characterAt 6 = .ok (.getfield 15, 3) := by decide +kernel
theorem dX10_characterAt_9 : decode cX10_characterAt 9 = .ok (.if_icmp .ge 12, 3) := by decide +kernel
theorem dX10_characterAt_12 : decode cX10_characterAt 12 = .ok (.aload_n 0, 1) := by decide +kernel
theorem dX10_characterAt_13 : decode cX10_characterAt 13 = .ok (.getfield 9, 3) := by decide +kernel
theorem dX10_characterAt_16 : decode cX10_characterAt 16 = .ok (.iload_n 1, 1) := by decide +kernel
theorem dX10_characterAt_17 : decode cX10_characterAt 17 = .ok (.caload, 1) := by decide +kernel
theorem dX10_characterAt_18 : decode cX10_characterAt 18 = .ok (.goto 4, 3) := by decide +kernel
theorem dX10_characterAt_21 : decode cX10_characterAt 21 = .ok (.iconst 0, 1) := by decide +kernel
theorem dX10_characterAt_22 : decode cX10_characterAt 22 = .ok (.ireturn, 1) := by decide +kernel
theorem dX10_hasDigitAt_0 : decode cX10_hasDigitAt 0 = .ok (.aload_n 0, 1) := by decide +kernel
theorem dX10_hasDigitAt_1 : decode cX10_hasDigitAt 1 = .ok (.iload_n 1, 1) := by decide +kernel
theorem dX10_hasDigitAt_2 : decode cX10_hasDigitAt 2 = .ok (.invokevirtual 19, 3) := by decide +kernel
theorem dX10_hasDigitAt_5 : decode cX10_hasDigitAt 5 = .ok (.istore_n 2, 1) := by decide +kernel
theorem dX10_hasDigitAt_6 : decode cX10_hasDigitAt 6 = .ok (.iload_n 2, 1) := by decide +kernel
theorem dX10_hasDigitAt_7 : decode cX10_hasDigitAt 7 = .ok (.bipush 48, 2) := by decide +kernel
theorem dX10_hasDigitAt_9 : decode cX10_hasDigitAt 9 = .ok (.if_icmp .lt 13, 3) := by decide +kernel
theorem dX10_hasDigitAt_12 : decode cX10_hasDigitAt 12 = .ok (.iload_n 2, 1) := by decide +kernel
theorem dX10_hasDigitAt_13 : decode cX10_hasDigitAt 13 = .ok (.bipush 57, 2) := by decide +kernel
theorem dX10_hasDigitAt_15 : decode cX10_hasDigitAt 15 = .ok (.if_icmp .gt 7, 3) := by decide +kernel
theorem dX10_hasDigitAt_18 : decode cX10_hasDigitAt 18 = .ok (.iconst 1, 1) := by decide +kernel
theorem dX10_hasDigitAt_19 : decode cX10_hasDigitAt 19 = .ok (.goto 4, 3) := by decide +kernel
theorem dX10_hasDigitAt_22 : decode cX10_hasDigitAt 22 = .ok (.iconst 0, 1) := by decide +kernel
theorem dX10_hasDigitAt_23 : decode cX10_hasDigitAt 23 = .ok (.ireturn, 1) := by decide +kernel
theorem dX11_init_0 : decode cX11_init 0 = .ok (.aload_n 0, 1) := by decide +kernel
theorem dX11_init_1 : decode cX11_init 1 = .ok (.invokespecial 1, 3) := by decide +kernel
theorem dX11_init_4 : decode cX11_init 4 = .ok (.aload_n 0, 1) := by decide +kernel
theorem dX11_init_5 : decode cX11_init 5 = .ok (.new 7, 3) := by decide +kernel
theorem dX11_init_8 : decode cX11_init 8 = .ok (.dup, 1) := by decide +kernel
theorem dX11_init_9 : decode cX11_init 9 = .ok (.invokespecial 9, 3) := by decide +kernel
theorem dX11_init_12 : decode cX11_init 12 = .ok (.putfield 10, 3) := by decide +kernel
theorem dX11_init_15 : decode cX11_init 15 = .ok (.aload_n 0, 1) := by decide +kernel
theorem dX11_init_16 : decode cX11_init 16 = .ok (.new 7, 3) := by decide +kernel
theorem dX11_init_19 : decode cX11_init 19 = .ok (.dup, 1) := by decide +kernel
theorem dX11_init_20 : decode cX11_init 20 = .ok (.invokespecial 9, 3) := by decide +kernel
theorem dX11_init_23 : decode cX11_init 23 = .ok (.putfield 16, 3) := by decide +kernel
theorem dX11_init_26 : decode cX11_init 26 = .ok (.aload_n 0, 1) := by decide +kernel
theorem dX11_init_27 : decode cX11_init 27 = .ok (.new 19, 3) := by decide +kernel
theorem dX11_init_30 : decode cX11_init 30 = .ok (.dup, 1) := by decide +kernel
theorem dX11_init_31 : decode cX11_init 31 = .ok (.invokespecial 21, 3) := by decide +kernel
theorem dX11_init_34 : decode cX11_init 34 = .ok (.putfield 22, 3) := by decide +kernel
theorem dX11_init_37 : decode cX11_init 37 = .ok (.aload_n 0, 1) := by decide +kernel
theorem dX11_init_38 : decode cX11_init 38 = .ok (.new 26, 3) := by decide +kernel
theorem dX11_init_41 : decode cX11_init 41 = .ok (.dup, 1) := by decide +kernel
theorem dX11_init_42 : decode cX11_init 42 = .ok (.invokespecial 28, 3) := by decide +kernel
theorem dX11_init_45 : decode cX11_init 45 = .ok (.putfield 29, 3) := by decide +kernel
theorem dX11_init_48 : decode cX11_init 48 = .ok (.aload_n 0, 1) := by decide +kernel
theorem dX11_init_49 : decode cX11_init 49 = .ok (.new 33, 3) := by decide +kernel
theorem dX11_init_52 : decode cX11_init 52 = .ok (.dup, 1) := by decide +kernel
theorem dX11_init_53 : decode cX11_init 53 = .ok (.invokespecial 35, 3) := by decide +kernel
theorem dX11_init_56 : decode cX11_init 56 = .ok (.putfield 36, 3) := by decide +kernel
theorem dX11_init_59 : decode cX11_init 59 = .ok (.aload_n 0, 1) := by decide +kernel
theorem dX11_init_60 : decode cX11_init 60 = .ok (.new 40, 3) := by decide +kernel
theorem dX11_init_63 : decode cX11_init 63 = .ok (.dup, 1) := by decide +kernel
theorem dX11_init_64 : decode cX11_init 64 = .ok (.invokespecial 42, 3) := by decide +kernel
theorem dX11_init_67 : decode cX11_init 67 = .ok (.putfield 43, 3) := by decide +kernel
theorem dX11_init_70 : decode cX11_init 70 = .ok (.return_, 1) := by decide +kernel
theorem dX11_addShower_0 : decode cX11_addShower 0 = .ok (.iload_n 1, 1) := by decide +kernel
theorem dX11_addShower_1 : decode cX11_addShower 1 = .ok (.aload_n 0, 1) := by decide +kernel
theorem dX11_addShower_2 : decode cX11_addShower 2 = .ok (.getfield 10, 3) := by decide +kernel
theorem dX11_addShower_5 : decode cX11_addShower 5 = .ok (.getfield 47, 3) := by decide +kernel
theorem dX11_addShower_8 : decode cX11_addShower 8 = .ok (.sipush 5000, 3) := by decide +kernel
theorem dX11_addShower_11 : decode cX11_addShower 11 = .ok (.invokestatic 51, 3) := by decide +kernel
theorem dX11_addShower_14 : decode cX11_addShower 14 = .ok (.ifCond .eq 25, 3) := by decide +kernel
theorem dX11_addShower_17 : decode cX11_addShower 17 = .ok (.iload_n 2, 1) := by decide +kernel
theorem dX11_addShower_18 : decode cX11_addShower 18 = .ok (.iconst 1, 1) := by decide +kernel
theorem dX11_addShower_19 : decode cX11_addShower 19 = .ok (.sipush 500, 3) := by decide +kernel
theorem dX11_addShower_22 : decode cX11_addShower 22 = .ok (.invokestatic 51, 3) := by decide +kernel
theorem dX11_addShower_25 : decode cX11_addShower 25 = .ok (.ifCond .eq 14, 3) := by decide +kernel
theorem dX11_addShower_28 : decode cX11_addShower 28 = .ok (.iload_n 3, 1) := by decide +kernel
theorem dX11_addShower_29 : decode cX11_addShower 29 = .ok (.iconst 1, 1) := by decide +kernel
theorem dX11_addShower_30 : decode cX11_addShower 30 = .ok (.sipush 200, 3) := by decide +kernel
theorem dX11_addShower_33 : decode cX11_addShower 33 = .ok (.invokestatic 51, 3) := by decide +kernel
theorem dX11_addShower_36 : decode cX11_addShower 36 = .ok (.ifCond .ne 5, 3) := by decide +kernel
theorem dX11_addShower_39 : decode cX11_addShower 39 = .ok (.iconst (-1), 1) := by decide +kernel
theorem dX11_addShower_40 : decode cX11_addShower 40 = .ok (.ireturn, 1) := by decide +kernel
theorem dX11_addShower_41 : decode cX11_addShower 41 = .ok (.aload_n 0, 1) := by decide +kernel
theorem dX11_addShower_42 : decode cX11_addShower 42 = .ok (.getfield 10, 3) := by decide +kernel
theorem dX11_addShower_45 : decode cX11_addShower 45 = .ok (.getfield 55, 3) := by decide +kernel
theorem dX11_addShower_48 : decode cX11_addShower 48 = .ok (.getfield 59, 3) := by decide +kernel
theorem dX11_addShower_51 : decode cX11_addShower 51 = .ok (.bipush 12, 2) := by decide +kernel
theorem dX11_addShower_53 : decode cX11_addShower 53 = .ok (.if_icmp .lt 6, 3) := by decide +kernel
theorem dX11_addShower_56 : decode cX11_addShower 56 = .ok (.bipush (-3), 2) := by decide +kernel
theorem dX11_addShower_58 : decode cX11_addShower 58 = .ok (.ireturn, 1) := by decide +kernel
theorem dX11_addShower_59 : decode cX11_addShower 59 = .ok (.aload_n 0, 1) := by decide +kernel
theorem dX11_addShower_60 : decode cX11_addShower 60 = .ok (.getfield 22, 3) := by decide +kernel
theorem dX11_addShower_63 : decode cX11_addShower 63 = .ok (.aload_n 0, 1) := by decide +kernel
theorem dX11_addShower_64 : decode cX11_addShower 64 = .ok (.getfield 10, 3) := by decide +kernel
theorem dX11_addShower_67 : decode cX11_addShower 67 = .ok (.invokevirtual 64, 3) := by decide +kernel
theorem dX11_addShower_70 : decode cX11_addShower 70 = .ok (.aload_n 0, 1) := by decide +kernel
theorem dX11_addShower_71 : decode cX11_addShower 71 = .ok (.getfield 10, 3) := by decide +kernel
theorem dX11_addShower_74 : decode cX11_addShower 74 = .ok (.getfield 55, 3) := by decide +kernel
theorem dX11_addShower_77 : decode cX11_addShower 77 = .ok (.iload_n 1, 1) := by decide +kernel
theorem dX11_addShower_78 : decode cX11_addShower 78 = .ok (.iload_n 2, 1) := by decide +kernel
theorem dX11_addShower_79 : decode cX11_addShower 79 = .ok (.iload_n 3, 1) := by decide +kernel
theorem dX11_addShower_80 : decode cX11_addShower 80 = .ok (.invokevirtual 68, 3) := by decide +kernel
theorem dX11_addShower_83 : decode cX11_addShower 83 = .ok (.ireturn, 1) := by decide +kernel
theorem dX11_cancel_0 : decode cX11_cancel 0 = .ok (.aload_n 0, 1) := by decide +kernel
theorem dX11_cancel_1 : decode cX11_cancel 1 = .ok (.getfield 10, 3) := by decide +kernel
theorem dX11_cancel_4 : decode cX11_cancel 4 = .ok (.getfield 55, 3) := by decide +kernel
theorem dX11_cancel_7 : decode cX11_cancel 7 = .ok (.iload_n 1, 1) := by decide +kernel
theorem dX11_cancel_8 : decode cX11_cancel 8 = .ok (.invokevirtual 72, 3) := by decide +kernel
theorem dX11_cancel_11 : decode cX11_cancel 11 = .ok (.ifCond .ne 5, 3) := by decide +kernel
theorem dX11_cancel_14 : decode cX11_cancel 14 = .ok (.iconst (-1), 1) := by decide +kernel
theorem dX11_cancel_15 : decode cX11_cancel 15 = .ok (.ireturn, 1) := by decide +kernel
theorem dX11_cancel_16 : decode cX11_cancel 16 = .ok (.aload_n 0, 1) := by decide +kernel
theorem dX11_cancel_17 : decode cX11_cancel 17 = .ok (.getfield 10, 3) := by decide +kernel
theorem dX11_cancel_20 : decode cX11_cancel 20 = .ok (.getfield 55, 3) := by decide +kernel
theorem dX11_cancel_23 : decode cX11_cancel 23 = .ok (.getfield 76, 3) := by decide +kernel
theorem dX11_cancel_26 : decode cX11_cancel 26 = .ok (.iload_n 1, 1) := by decide +kernel
theorem dX11_cancel_27 : decode cX11_cancel 27 = .ok (.iaload, 1) := by decide +kernel
theorem dX11_cancel_28 : decode cX11_cancel 28 = .ok (.aload_n 0, 1) := by decide +kernel
theorem dX11_cancel_29 : decode cX11_cancel 29 = .ok (.getfield 10, 3) := by decide +kernel
theorem dX11_cancel_32 : decode cX11_cancel 32 = .ok (.getfield 47, 3) := by decide +kernel
theorem dX11_cancel_35 : decode cX11_cancel 35 = .ok (.if_icmp .ge 6, 3) := by decide +kernel
theorem dX11_cancel_38 : decode cX11_cancel 38 = .ok (.bipush (-2), 2) := by decide +kernel
theorem dX11_cancel_40 : decode cX11_cancel 40 = .ok (.ireturn, 1) := by decide +kernel
theorem dX11_cancel_41 : decode cX11_cancel 41 = .ok (.aload_n 0, 1) := by decide +kernel
theorem dX11_cancel_42 : decode cX11_cancel 42 = .ok (.getfield 22, 3) := by decide +kernel
theorem dX11_cancel_45 : decode cX11_cancel 45 = .ok (.aload_n 0, 1) := by decide +kernel
theorem dX11_cancel_46 : decode cX11_cancel 46 = .ok (.getfield 10, 3) := by decide +kernel
theorem dX11_cancel_49 : decode cX11_cancel 49 = .ok (.invokevirtual 64, 3) := by decide +kernel
theorem dX11_cancel_52 : decode cX11_cancel 52 = .ok (.aload_n 0, 1) := by decide +kernel
theorem dX11_cancel_53 : decode cX11_cancel 53 = .ok (.getfield 10, 3) := by decide +kernel
theorem dX11_cancel_56 : decode cX11_cancel 56 = .ok (.getfield 55, 3) := by decide +kernel
theorem dX11_cancel_59 : decode cX11_cancel 59 = .ok (.iload_n 1, 1) := by decide +kernel
theorem dX11_cancel_60 : decode cX11_cancel 60 = .ok (.invokevirtual 80, 3) := by decide +kernel
theorem dX11_cancel_63 : decode cX11_cancel 63 = .ok (.aload_n 0, 1) := by decide +kernel
theorem dX11_cancel_64 : decode cX11_cancel 64 = .ok (.getfield 10, 3) := by decide +kernel
theorem dX11_cancel_67 : decode cX11_cancel 67 = .ok (.getfield 55, 3) := by decide +kernel
theorem dX11_cancel_70 : decode cX11_cancel 70 = .ok (.getfield 59, 3) := by decide +kernel
theorem dX11_cancel_73 : decode cX11_cancel 73 = .ok (.ireturn, 1) := by decide +kernel
theorem dX11_shower_0 : decode cX11_shower 0 = .ok (.aload_n 0, 1) := by decide +kernel
theorem dX11_shower_1 : decode cX11_shower 1 = .ok (.getfield 10, 3) := by decide +kernel
theorem dX11_shower_4 : decode cX11_shower 4 = .ok (.getfield 55, 3) := by decide +kernel
theorem dX11_shower_7 : decode cX11_shower 7 = .ok (.iload_n 1, 1) := by decide +kernel
theorem dX11_shower_8 : decode cX11_shower 8 = .ok (.invokevirtual 72, 3) := by decide +kernel
theorem dX11_shower_11 : decode cX11_shower 11 = .ok (.ifCond .ne 5, 3) := by decide +kernel
theorem dX11_shower_14 : decode cX11_shower 14 = .ok (.iconst (-1), 1) := by decide +kernel
theorem dX11_shower_15 : decode cX11_shower 15 = .ok (.ireturn, 1) := by decide +kernel
theorem dX11_shower_16 : decode cX11_shower 16 = .ok (.iload_n 2, 1) := by decide +kernel
theorem dX11_shower_17 : decode cX11_shower 17 = .ok (.tableswitch 89 0 3 #[31, 44, 57, 70], 31) := by decide +kernel
theorem dX11_shower_48 : decode cX11_shower 48 = .ok (.aload_n 0, 1) := by decide +kernel
theorem dX11_shower_49 : decode cX11_shower 49 = .ok (.getfield 10, 3) := by decide +kernel
theorem dX11_shower_52 : decode cX11_shower 52 = .ok (.getfield 55, 3) := by decide +kernel
theorem dX11_shower_55 : decode cX11_shower 55 = .ok (.getfield 76, 3) := by decide +kernel
theorem dX11_shower_58 : decode cX11_shower 58 = .ok (.iload_n 1, 1) := by decide +kernel
theorem dX11_shower_59 : decode cX11_shower 59 = .ok (.iaload, 1) := by decide +kernel
theorem dX11_shower_60 : decode cX11_shower 60 = .ok (.ireturn, 1) := by decide +kernel
theorem dX11_shower_61 : decode cX11_shower 61 = .ok (.aload_n 0, 1) := by decide +kernel
theorem dX11_shower_62 : decode cX11_shower 62 = .ok (.getfield 10, 3) := by decide +kernel
theorem dX11_shower_65 : decode cX11_shower 65 = .ok (.getfield 55, 3) := by decide +kernel
theorem dX11_shower_68 : decode cX11_shower 68 = .ok (.getfield 84, 3) := by decide +kernel
theorem dX11_shower_71 : decode cX11_shower 71 = .ok (.iload_n 1, 1) := by decide +kernel
theorem dX11_shower_72 : decode cX11_shower 72 = .ok (.iaload, 1) := by decide +kernel
theorem dX11_shower_73 : decode cX11_shower 73 = .ok (.ireturn, 1) := by decide +kernel
theorem dX11_shower_74 : decode cX11_shower 74 = .ok (.aload_n 0, 1) := by decide +kernel
theorem dX11_shower_75 : decode cX11_shower 75 = .ok (.getfield 10, 3) := by decide +kernel
theorem dX11_shower_78 : decode cX11_shower 78 = .ok (.getfield 55, 3) := by decide +kernel
theorem dX11_shower_81 : decode cX11_shower 81 = .ok (.getfield 87, 3) := by decide +kernel
theorem dX11_shower_84 : decode cX11_shower 84 = .ok (.iload_n 1, 1) := by decide +kernel
theorem dX11_shower_85 : decode cX11_shower 85 = .ok (.iaload, 1) := by decide +kernel
theorem dX11_shower_86 : decode cX11_shower 86 = .ok (.ireturn, 1) := by decide +kernel
theorem dX11_shower_87 : decode cX11_shower 87 = .ok (.aload_n 0, 1) := by decide +kernel
theorem dX11_shower_88 : decode cX11_shower 88 = .ok (.getfield 10, 3) := by decide +kernel
theorem dX11_shower_91 : decode cX11_shower 91 = .ok (.getfield 55, 3) := by decide +kernel
theorem dX11_shower_94 : decode cX11_shower 94 = .ok (.iload_n 1, 1) := by decide +kernel
theorem dX11_shower_95 : decode cX11_shower 95 = .ok (.aload_n 0, 1) := by decide +kernel
theorem dX11_shower_96 : decode cX11_shower 96 = .ok (.getfield 10, 3) := by decide +kernel
theorem dX11_shower_99 : decode cX11_shower 99 = .ok (.getfield 47, 3) := by decide +kernel
theorem dX11_shower_102 : decode cX11_shower 102 = .ok (.invokevirtual 90, 3) := by decide +kernel
theorem dX11_shower_105 : decode cX11_shower 105 = .ok (.ireturn, 1) := by decide +kernel
theorem dX11_shower_106 : decode cX11_shower 106 = .ok (.iconst (-1), 1) := by decide +kernel
theorem dX11_shower_107 : decode cX11_shower 107 = .ok (.ireturn, 1) := by decide +kernel
theorem dX11_run_0 : decode cX11_run 0 = .ok (.aload_n 0, 1) := by decide +kernel
theorem dX11_run_1 : decode cX11_run 1 = .ok (.iload_n 1, 1) := by decide +kernel
theorem dX11_run_2 : decode cX11_run 2 = .ok (.invokevirtual 94, 3) := by decide +kernel
theorem dX11_run_5 : decode cX11_run 5 = .ok (.istore_n 2, 1) := by decide +kernel
theorem dX11_run_6 : decode cX11_run 6 = .ok (.iload_n 2, 1) := by decide +kernel
theorem dX11_run_7 : decode cX11_run 7 = .ok (.ifCond .eq 5, 3) := by decide +kernel
theorem dX11_run_10 : decode cX11_run 10 = .ok (.iload_n 2, 1) := by decide +kernel
theorem dX11_run_11 : decode cX11_run 11 = .ok (.ireturn, 1) := by decide +kernel
theorem dX11_run_12 : decode cX11_run 12 = .ok (.aload_n 0, 1) := by decide +kernel
theorem dX11_run_13 : decode cX11_run 13 = .ok (.getfield 22, 3) := by decide +kernel
theorem dX11_run_16 : decode cX11_run 16 = .ok (.aload_n 0, 1) := by decide +kernel
theorem dX11_run_17 : decode cX11_run 17 = .ok (.getfield 10, 3) := by decide +kernel
theorem dX11_run_20 : decode cX11_run 20 = .ok (.invokevirtual 64, 3) := by decide +kernel
theorem dX11_run_23 : decode cX11_run 23 = .ok (.aload_n 0, 1) := by decide +kernel
theorem dX11_run_24 : decode cX11_run 24 = .ok (.getfield 10, 3) := by decide +kernel
theorem dX11_run_27 : decode cX11_run 27 = .ok (.iload_n 1, 1) := by decide +kernel
theorem dX11_run_28 : decode cX11_run 28 = .ok (.invokevirtual 98, 3) := by decide +kernel
theorem dX11_run_31 : decode cX11_run 31 = .ok (.ireturn, 1) := by decide +kernel
theorem dX11_undo_0 : decode cX11_undo 0 = .ok (.aload_n 0, 1) := by decide +kernel
theorem dX11_undo_1 : decode cX11_undo 1 = .ok (.getfield 22, 3) := by decide +kernel
theorem dX11_undo_4 : decode cX11_undo 4 = .ok (.getfield 101, 3) := by decide +kernel
theorem dX11_undo_7 : decode cX11_undo 7 = .ok (.ifCond .ne 6, 3) := by decide +kernel
theorem dX11_undo_10 : decode cX11_undo 10 = .ok (.bipush (-2), 2) := by decide +kernel
theorem dX11_undo_12 : decode cX11_undo 12 = .ok (.ireturn, 1) := by decide +kernel
theorem dX11_undo_13 : decode cX11_undo 13 = .ok (.aload_n 0, 1) := by decide +kernel
theorem dX11_undo_14 : decode cX11_undo 14 = .ok (.getfield 22, 3) := by decide +kernel
theorem dX11_undo_17 : decode cX11_undo 17 = .ok (.aload_n 0, 1) := by decide +kernel
theorem dX11_undo_18 : decode cX11_undo 18 = .ok (.getfield 10, 3) := by decide +kernel
theorem dX11_undo_21 : decode cX11_undo 21 = .ok (.invokevirtual 102, 3) := by decide +kernel
theorem dX11_undo_24 : decode cX11_undo 24 = .ok (.aload_n 0, 1) := by decide +kernel
theorem dX11_undo_25 : decode cX11_undo 25 = .ok (.getfield 22, 3) := by decide +kernel
theorem dX11_undo_28 : decode cX11_undo 28 = .ok (.getfield 101, 3) := by decide +kernel
theorem dX11_undo_31 : decode cX11_undo 31 = .ok (.ireturn, 1) := by decide +kernel
theorem dX11_set_0 : decode cX11_set 0 = .ok (.iload_n 1, 1) := by decide +kernel
theorem dX11_set_1 : decode cX11_set 1 = .ok (.iconst 0, 1) := by decide +kernel
theorem dX11_set_2 : decode cX11_set 2 = .ok (.bipush 7, 2) := by decide +kernel
theorem dX11_set_4 : decode cX11_set 4 = .ok (.invokestatic 51, 3) := by decide +kernel
theorem dX11_set_7 : decode cX11_set 7 = .ok (.ifCond .eq 20, 3) := by decide +kernel
theorem dX11_set_10 : decode cX11_set 10 = .ok (.iload_n 2, 1) := by decide +kernel
theorem dX11_set_11 : decode cX11_set 11 = .ok (.getstatic 105, 3) := by decide +kernel
theorem dX11_set_14 : decode cX11_set 14 = .ok (.iload_n 1, 1) := by decide +kernel
theorem dX11_set_15 : decode cX11_set 15 = .ok (.iaload, 1) := by decide +kernel
theorem dX11_set_16 : decode cX11_set 16 = .ok (.getstatic 108, 3) := by decide +kernel
theorem dX11_set_19 : decode cX11_set 19 = .ok (.iload_n 1, 1) := by decide +kernel
theorem dX11_set_20 : decode cX11_set 20 = .ok (.iaload, 1) := by decide +kernel
theorem dX11_set_21 : decode cX11_set 21 = .ok (.invokestatic 51, 3) := by decide +kernel
theorem dX11_set_24 : decode cX11_set 24 = .ok (.ifCond .ne 5, 3) := by decide +kernel
theorem dX11_set_27 : decode cX11_set 27 = .ok (.iconst (-1), 1) := by decide +kernel
theorem dX11_set_28 : decode cX11_set 28 = .ok (.ireturn, 1) := by decide +kernel
theorem dX11_set_29 : decode cX11_set 29 = .ok (.aload_n 0, 1) := by decide +kernel
theorem dX11_set_30 : decode cX11_set 30 = .ok (.getfield 22, 3) := by decide +kernel
theorem dX11_set_33 : decode cX11_set 33 = .ok (.aload_n 0, 1) := by decide +kernel
theorem dX11_set_34 : decode cX11_set 34 = .ok (.getfield 10, 3) := by decide +kernel
theorem dX11_set_37 : decode cX11_set 37 = .ok (.invokevirtual 64, 3) := by decide +kernel
theorem dX11_set_40 : decode cX11_set 40 = .ok (.aload_n 0, 1) := by decide +kernel
theorem dX11_set_41 : decode cX11_set 41 = .ok (.getfield 10, 3) := by decide +kernel
theorem dX11_set_44 : decode cX11_set 44 = .ok (.getfield 111, 3) := by decide +kernel
theorem dX11_set_47 : decode cX11_set 47 = .ok (.iload_n 1, 1) := by decide +kernel
theorem dX11_set_48 : decode cX11_set 48 = .ok (.iaload, 1) := by decide +kernel
theorem dX11_set_49 : decode cX11_set 49 = .ok (.istore_n 3, 1) := by decide +kernel
theorem dX11_set_50 : decode cX11_set 50 = .ok (.aload_n 0, 1) := by decide +kernel
theorem dX11_set_51 : decode cX11_set 51 = .ok (.getfield 10, 3) := by decide +kernel
theorem dX11_set_54 : decode cX11_set 54 = .ok (.getfield 111, 3) := by decide +kernel
theorem dX11_set_57 : decode cX11_set 57 = .ok (.iload_n 1, 1) := by decide +kernel
theorem dX11_set_58 : decode cX11_set 58 = .ok (.iload_n 2, 1) := by decide +kernel
theorem dX11_set_59 : decode cX11_set 59 = .ok (.iastore, 1) := by decide +kernel
theorem dX11_set_60 : decode cX11_set 60 = .ok (.iload_n 3, 1) := by decide +kernel
theorem dX11_set_61 : decode cX11_set 61 = .ok (.ireturn, 1) := by decide +kernel
theorem dX11_wind_0 : decode cX11_wind 0 = .ok (.aload_n 0, 1) := by decide +kernel
theorem dX11_wind_1 : decode cX11_wind 1 = .ok (.getfield 22, 3) := by decide +kernel
theorem dX11_wind_4 : decode cX11_wind 4 = .ok (.aload_n 0, 1) := by decide +kernel
theorem dX11_wind_5 : decode cX11_wind 5 = .ok (.getfield 10, 3) := by decide +kernel
theorem dX11_wind_8 : decode cX11_wind 8 = .ok (.invokevirtual 64, 3) := by decide +kernel
theorem dX11_wind_11 : decode cX11_wind 11 = .ok (.aload_n 0, 1) := by decide +kernel
theorem dX11_wind_12 : decode cX11_wind 12 = .ok (.getfield 10, 3) := by decide +kernel
theorem dX11_wind_15 : decode cX11_wind 15 = .ok (.getfield 114, 3) := by decide +kernel
theorem dX11_wind_18 : decode cX11_wind 18 = .ok (.getfield 118, 3) := by decide +kernel
theorem dX11_wind_21 : decode cX11_wind 21 = .ok (.istore_n 1, 1) := by decide +kernel
theorem dX11_wind_22 : decode cX11_wind 22 = .ok (.aload_n 0, 1) := by decide +kernel
theorem dX11_wind_23 : decode cX11_wind 23 = .ok (.getfield 10, 3) := by decide +kernel
theorem dX11_wind_26 : decode cX11_wind 26 = .ok (.getfield 114, 3) := by decide +kernel
theorem dX11_wind_29 : decode cX11_wind 29 = .ok (.aload_n 0, 1) := by decide +kernel
theorem dX11_wind_30 : decode cX11_wind 30 = .ok (.getfield 10, 3) := by decide +kernel
theorem dX11_wind_33 : decode cX11_wind 33 = .ok (.getfield 111, 3) := by decide +kernel
theorem dX11_wind_36 : decode cX11_wind 36 = .ok (.bipush 6, 2) := by decide +kernel
theorem dX11_wind_38 : decode cX11_wind 38 = .ok (.iaload, 1) := by decide +kernel
theorem dX11_wind_39 : decode cX11_wind 39 = .ok (.putfield 118, 3) := by decide +kernel
theorem dX11_wind_42 : decode cX11_wind 42 = .ok (.iload_n 1, 1) := by decide +kernel
theorem dX11_wind_43 : decode cX11_wind 43 = .ok (.ireturn, 1) := by decide +kernel
theorem dX11_addGears_0 : decode cX11_addGears 0 = .ok (.iload_n 1, 1) := by decide +kernel
theorem dX11_addGears_1 : decode cX11_addGears 1 = .ok (.bipush 8, 2) := by decide +kernel
theorem dX11_addGears_3 : decode cX11_addGears 3 = .ok (.bipush 120, 2) := by decide +kernel
theorem dX11_addGears_5 : decode cX11_addGears 5 = .ok (.invokestatic 51, 3) := by decide +kernel
theorem dX11_addGears_8 : decode cX11_addGears 8 = .ok (.ifCond .eq 14, 3) := by decide +kernel
theorem dX11_addGears_11 : decode cX11_addGears 11 = .ok (.iload_n 2, 1) := by decide +kernel
theorem dX11_addGears_12 : decode cX11_addGears 12 = .ok (.bipush 8, 2) := by decide +kernel
theorem dX11_addGears_14 : decode cX11_addGears 14 = .ok (.bipush 120, 2) := by decide +kernel
theorem dX11_addGears_16 : decode cX11_addGears 16 = .ok (.invokestatic 51, 3) := by decide +kernel
theorem dX11_addGears_19 : decode cX11_addGears 19 = .ok (.ifCond .ne 5, 3) := by decide +kernel
theorem dX11_addGears_22 : decode cX11_addGears 22 = .ok (.iconst (-1), 1) := by decide +kernel
theorem dX11_addGears_23 : decode cX11_addGears 23 = .ok (.ireturn, 1) := by decide +kernel
theorem dX11_addGears_24 : decode cX11_addGears 24 = .ok (.aload_n 0, 1) := by decide +kernel
theorem dX11_addGears_25 : decode cX11_addGears 25 = .ok (.getfield 10, 3) := by decide +kernel
theorem dX11_addGears_28 : decode cX11_addGears 28 = .ok (.getfield 123, 3) := by decide +kernel
theorem dX11_addGears_31 : decode cX11_addGears 31 = .ok (.getfield 127, 3) := by decide +kernel
theorem dX11_addGears_34 : decode cX11_addGears 34 = .ok (.iconst 3, 1) := by decide +kernel
theorem dX11_addGears_35 : decode cX11_addGears 35 = .ok (.if_icmp .lt 6, 3) := by decide +kernel
theorem dX11_addGears_38 : decode cX11_addGears 38 = .ok (.bipush (-3), 2) := by decide +kernel
theorem dX11_addGears_40 : decode cX11_addGears 40 = .ok (.ireturn, 1) := by decide +kernel
theorem dX11_addGears_41 : decode cX11_addGears 41 = .ok (.aload_n 0, 1) := by decide +kernel
theorem dX11_addGears_42 : decode cX11_addGears 42 = .ok (.getfield 22, 3) := by decide +kernel
theorem dX11_addGears_45 : decode cX11_addGears 45 = .ok (.aload_n 0, 1) := by decide +kernel
theorem dX11_addGears_46 : decode cX11_addGears 46 = .ok (.getfield 10, 3) := by decide +kernel
theorem dX11_addGears_49 : decode cX11_addGears 49 = .ok (.invokevirtual 64, 3) := by decide +kernel
theorem dX11_addGears_52 : decode cX11_addGears 52 = .ok (.aload_n 0, 1) := by decide +kernel
theorem dX11_addGears_53 : decode cX11_addGears 53 = .ok (.getfield 10, 3) := by decide +kernel
theorem dX11_addGears_56 : decode cX11_addGears 56 = .ok (.getfield 123, 3) := by decide +kernel
theorem dX11_addGears_59 : decode cX11_addGears 59 = .ok (.iload_n 1, 1) := by decide +kernel
theorem dX11_addGears_60 : decode cX11_addGears 60 = .ok (.iload_n 2, 1) := by decide +kernel
theorem dX11_addGears_61 : decode cX11_addGears 61 = .ok (.invokevirtual 130, 3) := by decide +kernel
theorem dX11_addGears_64 : decode cX11_addGears 64 = .ok (.aload_n 0, 1) := by decide +kernel
theorem dX11_addGears_65 : decode cX11_addGears 65 = .ok (.getfield 10, 3) := by decide +kernel
theorem dX11_addGears_68 : decode cX11_addGears 68 = .ok (.getfield 123, 3) := by decide +kernel
theorem dX11_addGears_71 : decode cX11_addGears 71 = .ok (.getfield 127, 3) := by decide +kernel
theorem dX11_addGears_74 : decode cX11_addGears 74 = .ok (.ireturn, 1) := by decide +kernel
theorem dX11_removeGears_0 : decode cX11_removeGears 0 = .ok (.aload_n 0, 1) := by decide +kernel
theorem dX11_removeGears_1 : decode cX11_removeGears 1 = .ok (.getfield 10, 3) := by decide +kernel
theorem dX11_removeGears_4 : decode cX11_removeGears 4 = .ok (.getfield 123, 3) := by decide +kernel
theorem dX11_removeGears_7 : decode cX11_removeGears 7 = .ok (.iload_n 1, 1) := by decide +kernel
theorem dX11_removeGears_8 : decode cX11_removeGears 8 = .ok (.invokevirtual 134, 3) := by decide +kernel
theorem dX11_removeGears_11 : decode cX11_removeGears 11 = .ok (.ifCond .ne 5, 3) := by decide +kernel
theorem dX11_removeGears_14 : decode cX11_removeGears 14 = .ok (.iconst (-1), 1) := by decide +kernel
theorem dX11_removeGears_15 : decode cX11_removeGears 15 = .ok (.ireturn, 1) := by decide +kernel
theorem dX11_removeGears_16 : decode cX11_removeGears 16 = .ok (.aload_n 0, 1) := by decide +kernel
theorem dX11_removeGears_17 : decode cX11_removeGears 17 = .ok (.getfield 22, 3) := by decide +kernel
theorem dX11_removeGears_20 : decode cX11_removeGears 20 = .ok (.aload_n 0, 1) := by decide +kernel
theorem dX11_removeGears_21 : decode cX11_removeGears 21 = .ok (.getfield 10, 3) := by decide +kernel
theorem dX11_removeGears_24 : decode cX11_removeGears 24 = .ok (.invokevirtual 64, 3) := by decide +kernel
theorem dX11_removeGears_27 : decode cX11_removeGears 27 = .ok (.aload_n 0, 1) := by decide +kernel
theorem dX11_removeGears_28 : decode cX11_removeGears 28 = .ok (.getfield 10, 3) := by decide +kernel
theorem dX11_removeGears_31 : decode cX11_removeGears 31 = .ok (.getfield 123, 3) := by decide +kernel
theorem dX11_removeGears_34 : decode cX11_removeGears 34 = .ok (.iload_n 1, 1) := by decide +kernel
theorem dX11_removeGears_35 : decode cX11_removeGears 35 = .ok (.invokevirtual 135, 3) := by decide +kernel
theorem dX11_removeGears_38 : decode cX11_removeGears 38 = .ok (.aload_n 0, 1) := by decide +kernel
theorem dX11_removeGears_39 : decode cX11_removeGears 39 = .ok (.getfield 10, 3) := by decide +kernel
theorem dX11_removeGears_42 : decode cX11_removeGears 42 = .ok (.getfield 123, 3) := by decide +kernel
theorem dX11_removeGears_45 : decode cX11_removeGears 45 = .ok (.getfield 127, 3) := by decide +kernel
theorem dX11_removeGears_48 : decode cX11_removeGears 48 = .ok (.ireturn, 1) := by decide +kernel
theorem dX11_gear_0 : decode cX11_gear 0 = .ok (.aload_n 0, 1) := by decide +kernel
theorem dX11_gear_1 : decode cX11_gear 1 = .ok (.getfield 10, 3) := by decide +kernel
theorem dX11_gear_4 : decode cX11_gear 4 = .ok (.getfield 123, 3) := by decide +kernel
theorem dX11_gear_7 : decode cX11_gear 7 = .ok (.iload_n 1, 1) := by decide +kernel
theorem dX11_gear_8 : decode cX11_gear 8 = .ok (.invokevirtual 134, 3) := by decide +kernel
theorem dX11_gear_11 : decode cX11_gear 11 = .ok (.ifCond .eq 12, 3) := by decide +kernel
theorem dX11_gear_14 : decode cX11_gear 14 = .ok (.iload_n 2, 1) := by decide +kernel
theorem dX11_gear_15 : decode cX11_gear 15 = .ok (.iconst 0, 1) := by decide +kernel
theorem dX11_gear_16 : decode cX11_gear 16 = .ok (.iconst 1, 1) := by decide +kernel
theorem dX11_gear_17 : decode cX11_gear 17 = .ok (.invokestatic 51, 3) := by decide +kernel
theorem dX11_gear_20 : decode cX11_gear 20 = .ok (.ifCond .ne 5, 3) := by decide +kernel
theorem dX11_gear_23 : decode cX11_gear 23 = .ok (.iconst (-1), 1) := by decide +kernel
theorem dX11_gear_24 : decode cX11_gear 24 = .ok (.ireturn, 1) := by decide +kernel
theorem dX11_gear_25 : decode cX11_gear 25 = .ok (.iload_n 2, 1) := by decide +kernel
theorem dX11_gear_26 : decode cX11_gear 26 = .ok (.ifCond .ne 18, 3) := by decide +kernel
theorem dX11_gear_29 : decode cX11_gear 29 = .ok (.aload_n 0, 1) := by decide +kernel
theorem dX11_gear_30 : decode cX11_gear 30 = .ok (.getfield 10, 3) := by decide +kernel
theorem dX11_gear_33 : decode cX11_gear 33 = .ok (.getfield 123, 3) := by decide +kernel
theorem dX11_gear_36 : decode cX11_gear 36 = .ok (.getfield 136, 3) := by decide +kernel
theorem dX11_gear_39 : decode cX11_gear 39 = .ok (.iload_n 1, 1) := by decide +kernel
theorem dX11_gear_40 : decode cX11_gear 40 = .ok (.iaload, 1) := by decide +kernel
theorem dX11_gear_41 : decode cX11_gear 41 = .ok (.goto 15, 3) := by decide +kernel
theorem dX11_gear_44 : decode cX11_gear 44 = .ok (.aload_n 0, 1) := by decide +kernel
theorem dX11_gear_45 : decode cX11_gear 45 = .ok (.getfield 10, 3) := by decide +kernel
theorem dX11_gear_48 : decode cX11_gear 48 = .ok (.getfield 123, 3) := by decide +kernel
theorem dX11_gear_51 : decode cX11_gear 51 = .ok (.getfield 139, 3) := by decide +kernel
theorem dX11_gear_54 : decode cX11_gear 54 = .ok (.iload_n 1, 1) := by decide +kernel
theorem dX11_gear_55 : decode cX11_gear 55 = .ok (.iaload, 1) := by decide +kernel
theorem dX11_gear_56 : decode cX11_gear 56 = .ok (.ireturn, 1) := by decide +kernel
theorem dX11_count_0 : decode cX11_count 0 = .ok (.iload_n 1, 1) := by decide +kernel
theorem dX11_count_1 : decode cX11_count 1 = .ok (.bipush 20, 2) := by decide +kernel
theorem dX11_count_3 : decode cX11_count 3 = .ok (.bipush 27, 2) := by decide +kernel
theorem dX11_count_5 : decode cX11_count 5 = .ok (.invokestatic 51, 3) := by decide +kernel
theorem dX11_count_8 : decode cX11_count 8 = .ok (.ifCond .eq 16, 3) := by decide +kernel
theorem dX11_count_11 : decode cX11_count 11 = .ok (.aload_n 0, 1) := by decide +kernel
theorem dX11_count_12 : decode cX11_count 12 = .ok (.getfield 10, 3) := by decide +kernel
theorem dX11_count_15 : decode cX11_count 15 = .ok (.getfield 111, 3) := by decide +kernel
theorem dX11_count_18 : decode cX11_count 18 = .ok (.iload_n 1, 1) := by decide +kernel
theorem dX11_count_19 : decode cX11_count 19 = .ok (.bipush 20, 2) := by decide +kernel
theorem dX11_count_21 : decode cX11_count 21 = .ok (.isub, 1) := by decide +kernel
theorem dX11_count_22 : decode cX11_count 22 = .ok (.iaload, 1) := by decide +kernel
theorem dX11_count_23 : decode cX11_count 23 = .ok (.ireturn, 1) := by decide +kernel
theorem dX11_count_24 : decode cX11_count 24 = .ok (.iload_n 1, 1) := by decide +kernel
theorem dX11_count_25 : decode cX11_count 25 = .ok (.tableswitch 230 0 13 #[71, 79, 90, 101, 122, 133, 144, 155, 166, 177, 185, 196, 204, 212], 71) := by decide +kernel
theorem dX11_count_96 : decode cX11_count 96 = .ok (.aload_n 0, 1) := by decide +kernel
theorem dX11_count_97 : decode cX11_count 97 = .ok (.getfield 10, 3) := by decide +kernel
theorem dX11_count_100 : decode cX11_count 100 = .ok (.getfield 47, 3) := by decide +kernel
theorem dX11_count_103 : decode cX11_count 103 = .ok (.ireturn, 1) := by decide +kernel
theorem dX11_count_104 : decode cX11_count 104 = .ok (.aload_n 0, 1) := by decide +kernel
theorem dX11_count_105 : decode cX11_count 105 = .ok (.getfield 10, 3) := by decide +kernel
theorem dX11_count_108 : decode cX11_count 108 = .ok (.getfield 55, 3) := by decide +kernel
theorem dX11_count_111 : decode cX11_count 111 = .ok (.getfield 59, 3) := by decide +kernel
theorem dX11_count_114 : decode cX11_count 114 = .ok (.ireturn, 1) := by decide +kernel
theorem dX11_count_115 : decode cX11_count 115 = .ok (.aload_n 0, 1) := by decide +kernel
theorem dX11_count_116 : decode cX11_count 116 = .ok (.getfield 10, 3) := by decide +kernel
theorem dX11_count_119 : decode cX11_count 119 = .ok (.getfield 142, 3) := by decide +kernel
theorem dX11_count_122 : decode cX11_count 122 = .ok (.getfield 146, 3) := by decide +kernel
theorem dX11_count_125 : decode cX11_count 125 = .ok (.ireturn, 1) := by decide +kernel
theorem dX11_count_126 : decode cX11_count 126 = .ok (.aload_n 0, 1) := by decide +kernel
theorem dX11_count_127 : decode cX11_count 127 = .ok (.getfield 10, 3) := by decide +kernel
theorem dX11_count_130 : decode cX11_count 130 = .ok (.getfield 142, 3) := by decide +kernel
theorem dX11_count_133 : decode cX11_count 133 = .ok (.aload_n 0, 1) := by decide +kernel
theorem dX11_count_134 : decode cX11_count 134 = .ok (.getfield 10, 3) := by decide +kernel
theorem dX11_count_137 : decode cX11_count 137 = .ok (.getfield 111, 3) := by decide +kernel
theorem dX11_count_140 : decode cX11_count 140 = .ok (.bipush 7, 2) := by decide +kernel
theorem dX11_count_142 : decode cX11_count 142 = .ok (.iaload, 1) := by decide +kernel
theorem dX11_count_143 : decode cX11_count 143 = .ok (.invokevirtual 149, 3) := by decide +kernel
theorem dX11_count_146 : decode cX11_count 146 = .ok (.ireturn, 1) := by decide +kernel
theorem dX11_count_147 : decode cX11_count 147 = .ok (.aload_n 0, 1) := by decide +kernel
theorem dX11_count_148 : decode cX11_count 148 = .ok (.getfield 10, 3) := by decide +kernel
theorem dX11_count_151 : decode cX11_count 151 = .ok (.getfield 152, 3) := by decide +kernel
theorem dX11_count_154 : decode cX11_count 154 = .ok (.getfield 156, 3) := by decide +kernel
theorem dX11_count_157 : decode cX11_count 157 = .ok (.ireturn, 1) := by decide +kernel
theorem dX11_count_158 : decode cX11_count 158 = .ok (.aload_n 0, 1) := by decide +kernel
theorem dX11_count_159 : decode cX11_count 159 = .ok (.getfield 10, 3) := by decide +kernel
theorem dX11_count_162 : decode cX11_count 162 = .ok (.getfield 161, 3) := by decide +kernel
theorem dX11_count_165 : decode cX11_count 165 = .ok (.getfield 165, 3) := by decide +kernel
theorem dX11_count_168 : decode cX11_count 168 = .ok (.ireturn, 1) := by decide +kernel
theorem dX11_count_169 : decode cX11_count 169 = .ok (.aload_n 0, 1) := by decide +kernel
theorem dX11_count_170 : decode cX11_count 170 = .ok (.getfield 10, 3) := by decide +kernel
theorem dX11_count_173 : decode cX11_count 173 = .ok (.getfield 161, 3) := by decide +kernel
theorem dX11_count_176 : decode cX11_count 176 = .ok (.getfield 168, 3) := by decide +kernel
theorem dX11_count_179 : decode cX11_count 179 = .ok (.ireturn, 1) := by decide +kernel
theorem dX11_count_180 : decode cX11_count 180 = .ok (.aload_n 0, 1) := by decide +kernel
theorem dX11_count_181 : decode cX11_count 181 = .ok (.getfield 10, 3) := by decide +kernel
theorem dX11_count_184 : decode cX11_count 184 = .ok (.getfield 114, 3) := by decide +kernel
theorem dX11_count_187 : decode cX11_count 187 = .ok (.getfield 118, 3) := by decide +kernel
theorem dX11_count_190 : decode cX11_count 190 = .ok (.ireturn, 1) := by decide +kernel
theorem dX11_count_191 : decode cX11_count 191 = .ok (.aload_n 0, 1) := by decide +kernel
theorem dX11_count_192 : decode cX11_count 192 = .ok (.getfield 10, 3) := by decide +kernel
theorem dX11_count_195 : decode cX11_count 195 = .ok (.getfield 114, 3) := by decide +kernel
theorem dX11_count_198 : decode cX11_count 198 = .ok (.getfield 171, 3) := by decide +kernel
theorem dX11_count_201 : decode cX11_count 201 = .ok (.ireturn, 1) := by decide +kernel
theorem dX11_count_202 : decode cX11_count 202 = .ok (.aload_n 0, 1) := by decide +kernel
theorem dX11_count_203 : decode cX11_count 203 = .ok (.getfield 10, 3) := by decide +kernel
theorem dX11_count_206 : decode cX11_count 206 = .ok (.invokevirtual 174, 3) := by decide +kernel
theorem dX11_count_209 : decode cX11_count 209 = .ok (.ireturn, 1) := by decide +kernel
theorem dX11_count_210 : decode cX11_count 210 = .ok (.aload_n 0, 1) := by decide +kernel
theorem dX11_count_211 : decode cX11_count 211 = .ok (.getfield 10, 3) := by decide +kernel
theorem dX11_count_214 : decode cX11_count 214 = .ok (.getfield 123, 3) := by decide +kernel
theorem dX11_count_217 : decode cX11_count 217 = .ok (.getfield 127, 3) := by decide +kernel
theorem dX11_count_220 : decode cX11_count 220 = .ok (.ireturn, 1) := by decide +kernel
theorem dX11_count_221 : decode cX11_count 221 = .ok (.aload_n 0, 1) := by decide +kernel
theorem dX11_count_222 : decode cX11_count 222 = .ok (.getfield 22, 3) := by decide +kernel
theorem dX11_count_225 : decode cX11_count 225 = .ok (.getfield 101, 3) := by decide +kernel
theorem dX11_count_228 : decode cX11_count 228 = .ok (.ireturn, 1) := by decide +kernel
theorem dX11_count_229 : decode cX11_count 229 = .ok (.aload_n 0, 1) := by decide +kernel
theorem dX11_count_230 : decode cX11_count 230 = .ok (.getfield 36, 3) := by decide +kernel
theorem dX11_count_233 : decode cX11_count 233 = .ok (.getfield 178, 3) := by decide +kernel
theorem dX11_count_236 : decode cX11_count 236 = .ok (.ireturn, 1) := by decide +kernel
theorem dX11_count_237 : decode cX11_count 237 = .ok (.aload_n 0, 1) := by decide +kernel
theorem dX11_count_238 : decode cX11_count 238 = .ok (.getfield 10, 3) := by decide +kernel
theorem dX11_count_241 : decode cX11_count 241 = .ok (.getfield 55, 3) := by decide +kernel
theorem dX11_count_244 : decode cX11_count 244 = .ok (.aload_n 0, 1) := by decide +kernel
theorem dX11_count_245 : decode cX11_count 245 = .ok (.getfield 10, 3) := by decide +kernel
theorem dX11_count_248 : decode cX11_count 248 = .ok (.getfield 47, 3) := by decide +kernel
theorem dX11_count_251 : decode cX11_count 251 = .ok (.invokevirtual 181, 3) := by decide +kernel
theorem dX11_count_254 : decode cX11_count 254 = .ok (.ireturn, 1) := by decide +kernel
theorem dX11_count_255 : decode cX11_count 255 = .ok (.iconst (-1), 1) := by decide +kernel
theorem dX11_count_256 : decode cX11_count 256 = .ok (.ireturn, 1) := by decide +kernel
theorem dX11_account_0 : decode cX11_account 0 = .ok (.iload_n 1, 1) := by decide +kernel
theorem dX11_account_1 : decode cX11_account 1 = .ok (.iconst 0, 1) := by decide +kernel
theorem dX11_account_2 : decode cX11_account 2 = .ok (.iconst 4, 1) := by decide +kernel
theorem dX11_account_3 : decode cX11_account 3 = .ok (.invokestatic 51, 3) := by decide +kernel
theorem dX11_account_6 : decode cX11_account 6 = .ok (.ifCond .eq 14, 3) := by decide +kernel
theorem dX11_account_9 : decode cX11_account 9 = .ok (.aload_n 0, 1) := by decide +kernel
theorem dX11_account_10 : decode cX11_account 10 = .ok (.getfield 10, 3) := by decide +kernel
theorem dX11_account_13 : decode cX11_account 13 = .ok (.iload_n 1, 1) := by decide +kernel
theorem dX11_account_14 : decode cX11_account 14 = .ok (.invokevirtual 184, 3) := by decide +kernel
theorem dX11_account_17 : decode cX11_account 17 = .ok (.goto 4, 3) := by decide +kernel
theorem dX11_account_20 : decode cX11_account 20 = .ok (.iconst (-1), 1) := by decide +kernel
theorem dX11_account_21 : decode cX11_account 21 = .ok (.ireturn, 1) := by decide +kernel
theorem dX11_mark_0 : decode cX11_mark 0 = .ok (.aload_n 0, 1) := by decide +kernel
theorem dX11_mark_1 : decode cX11_mark 1 = .ok (.getfield 10, 3) := by decide +kernel
theorem dX11_mark_4 : decode cX11_mark 4 = .ok (.getfield 142, 3) := by decide +kernel
theorem dX11_mark_7 : decode cX11_mark 7 = .ok (.iload_n 1, 1) := by decide +kernel
theorem dX11_mark_8 : decode cX11_mark 8 = .ok (.invokevirtual 187, 3) := by decide +kernel
theorem dX11_mark_11 : decode cX11_mark 11 = .ok (.ifCond .ne 5, 3) := by decide +kernel
theorem dX11_mark_14 : decode cX11_mark 14 = .ok (.iconst (-1), 1) := by decide +kernel
theorem dX11_mark_15 : decode cX11_mark 15 = .ok (.ireturn, 1) := by decide +kernel
theorem dX11_mark_16 : decode cX11_mark 16 = .ok (.iload_n 2, 1) := by decide +kernel
theorem dX11_mark_17 : decode cX11_mark 17 = .ok (.tableswitch 66 0 2 #[27, 40, 53], 27) := by decide +kernel
theorem dX11_mark_44 : decode cX11_mark 44 = .ok (.aload_n 0, 1) := by decide +kernel
theorem dX11_mark_45 : decode cX11_mark 45 = .ok (.getfield 10, 3) := by decide +kernel
theorem dX11_mark_48 : decode cX11_mark 48 = .ok (.getfield 142, 3) := by decide +kernel
theorem dX11_mark_51 : decode cX11_mark 51 = .ok (.getfield 188, 3) := by decide +kernel
theorem dX11_mark_54 : decode cX11_mark 54 = .ok (.iload_n 1, 1) := by decide +kernel
theorem dX11_mark_55 : decode cX11_mark 55 = .ok (.iaload, 1) := by decide +kernel
theorem dX11_mark_56 : decode cX11_mark 56 = .ok (.ireturn, 1) := by decide +kernel
theorem dX11_mark_57 : decode cX11_mark 57 = .ok (.aload_n 0, 1) := by decide +kernel
theorem dX11_mark_58 : decode cX11_mark 58 = .ok (.getfield 10, 3) := by decide +kernel
theorem dX11_mark_61 : decode cX11_mark 61 = .ok (.getfield 142, 3) := by decide +kernel
theorem dX11_mark_64 : decode cX11_mark 64 = .ok (.getfield 191, 3) := by decide +kernel
theorem dX11_mark_67 : decode cX11_mark 67 = .ok (.iload_n 1, 1) := by decide +kernel
theorem dX11_mark_68 : decode cX11_mark 68 = .ok (.iaload, 1) := by decide +kernel
theorem dX11_mark_69 : decode cX11_mark 69 = .ok (.ireturn, 1) := by decide +kernel
theorem dX11_mark_70 : decode cX11_mark 70 = .ok (.aload_n 0, 1) := by decide +kernel
theorem dX11_mark_71 : decode cX11_mark 71 = .ok (.getfield 10, 3) := by decide +kernel
theorem dX11_mark_74 : decode cX11_mark 74 = .ok (.getfield 142, 3) := by decide +kernel
theorem dX11_mark_77 : decode cX11_mark 77 = .ok (.getfield 194, 3) := by decide +kernel
theorem dX11_mark_80 : decode cX11_mark 80 = .ok (.iload_n 1, 1) := by decide +kernel
theorem dX11_mark_81 : decode cX11_mark 81 = .ok (.iaload, 1) := by decide +kernel
theorem dX11_mark_82 : decode cX11_mark 82 = .ok (.ireturn, 1) := by decide +kernel
theorem dX11_mark_83 : decode cX11_mark 83 = .ok (.iconst (-1), 1) := by decide +kernel
theorem dX11_mark_84 : decode cX11_mark 84 = .ok (.ireturn, 1) := by decide +kernel
theorem dX11_storm_0 : decode cX11_storm 0 = .ok (.aload_n 0, 1) := by decide +kernel
theorem dX11_storm_1 : decode cX11_storm 1 = .ok (.getfield 10, 3) := by decide +kernel
theorem dX11_storm_4 : decode cX11_storm 4 = .ok (.getfield 111, 3) := by decide +kernel
theorem dX11_storm_7 : decode cX11_storm 7 = .ok (.bipush 7, 2) := by decide +kernel
theorem dX11_storm_9 : decode cX11_storm 9 = .ok (.iaload, 1) := by decide +kernel
theorem dX11_storm_10 : decode cX11_storm 10 = .ok (.istore_n 3, 1) := by decide +kernel
theorem dX11_storm_11 : decode cX11_storm 11 = .ok (.aload_n 0, 1) := by decide +kernel
theorem dX11_storm_12 : decode cX11_storm 12 = .ok (.getfield 10, 3) := by decide +kernel
theorem dX11_storm_15 : decode cX11_storm 15 = .ok (.getfield 142, 3) := by decide +kernel
theorem dX11_storm_18 : decode cX11_storm 18 = .ok (.iload_n 1, 1) := by decide +kernel
theorem dX11_storm_19 : decode cX11_storm 19 = .ok (.iload_n 3, 1) := by decide +kernel
theorem dX11_storm_20 : decode cX11_storm 20 = .ok (.invokevirtual 197, 3) := by decide +kernel
theorem dX11_storm_23 : decode cX11_storm 23 = .ok (.istore 4, 2) := by decide +kernel
theorem dX11_storm_25 : decode cX11_storm 25 = .ok (.iload 4, 2) := by decide +kernel
theorem dX11_storm_27 : decode cX11_storm 27 = .ok (.iconst (-1), 1) := by decide +kernel
theorem dX11_storm_28 : decode cX11_storm 28 = .ok (.if_icmp .ne 5, 3) := by decide +kernel
theorem dX11_storm_31 : decode cX11_storm 31 = .ok (.iconst (-1), 1) := by decide +kernel
theorem dX11_storm_32 : decode cX11_storm 32 = .ok (.ireturn, 1) := by decide +kernel
theorem dX11_storm_33 : decode cX11_storm 33 = .ok (.aload_n 0, 1) := by decide +kernel
theorem dX11_storm_34 : decode cX11_storm 34 = .ok (.getfield 10, 3) := by decide +kernel
theorem dX11_storm_37 : decode cX11_storm 37 = .ok (.getfield 142, 3) := by decide +kernel
theorem dX11_storm_40 : decode cX11_storm 40 = .ok (.iload 4, 2) := by decide +kernel
theorem dX11_storm_42 : decode cX11_storm 42 = .ok (.iload_n 3, 1) := by decide +kernel
theorem dX11_storm_43 : decode cX11_storm 43 = .ok (.invokevirtual 200, 3) := by decide +kernel
theorem dX11_storm_46 : decode cX11_storm 46 = .ok (.istore 5, 2) := by decide +kernel
theorem dX11_storm_48 : decode cX11_storm 48 = .ok (.iload_n 2, 1) := by decide +kernel
theorem dX11_storm_49 : decode cX11_storm 49 = .ok (.tableswitch 98 0 5 #[39, 42, 48, 65, 74, 83], 39) := by decide +kernel
theorem dX11_storm_88 : decode cX11_storm 88 = .ok (.iload 4, 2) := by decide +kernel
theorem dX11_storm_90 : decode cX11_storm 90 = .ok (.ireturn, 1) := by decide +kernel
theorem dX11_storm_91 : decode cX11_storm 91 = .ok (.iload 5, 2) := by decide +kernel
theorem dX11_storm_93 : decode cX11_storm 93 = .ok (.iload 4, 2) := by decide +kernel
theorem dX11_storm_95 : decode cX11_storm 95 = .ok (.isub, 1) := by decide +kernel
theorem dX11_storm_96 : decode cX11_storm 96 = .ok (.ireturn, 1) := by decide +kernel
theorem dX11_storm_97 : decode cX11_storm 97 = .ok (.aload_n 0, 1) := by decide +kernel
theorem dX11_storm_98 : decode cX11_storm 98 = .ok (.getfield 10, 3) := by decide +kernel
theorem dX11_storm_101 : decode cX11_storm 101 = .ok (.getfield 142, 3) := by decide +kernel
theorem dX11_storm_104 : decode cX11_storm 104 = .ok (.iload 4, 2) := by decide +kernel
theorem dX11_storm_106 : decode cX11_storm 106 = .ok (.iload 5, 2) := by decide +kernel
theorem dX11_storm_108 : decode cX11_storm 108 = .ok (.iconst 1, 1) := by decide +kernel
theorem dX11_storm_109 : decode cX11_storm 109 = .ok (.isub, 1) := by decide +kernel
theorem dX11_storm_110 : decode cX11_storm 110 = .ok (.invokevirtual 203, 3) := by decide +kernel
theorem dX11_storm_113 : decode cX11_storm 113 = .ok (.ireturn, 1) := by decide +kernel
theorem dX11_storm_114 : decode cX11_storm 114 = .ok (.aload_n 0, 1) := by decide +kernel
theorem dX11_storm_115 : decode cX11_storm 115 = .ok (.iload 4, 2) := by decide +kernel
theorem dX11_storm_117 : decode cX11_storm 117 = .ok (.iload 5, 2) := by decide +kernel
theorem dX11_storm_119 : decode cX11_storm 119 = .ok (.invokevirtual 206, 3) := by decide +kernel
theorem dX11_storm_122 : decode cX11_storm 122 = .ok (.ireturn, 1) := by decide +kernel
theorem dX11_storm_123 : decode cX11_storm 123 = .ok (.aload_n 0, 1) := by decide +kernel
theorem dX11_storm_124 : decode cX11_storm 124 = .ok (.iload 4, 2) := by decide +kernel
theorem dX11_storm_126 : decode cX11_storm 126 = .ok (.iload 5, 2) := by decide +kernel
theorem dX11_storm_128 : decode cX11_storm 128 = .ok (.invokevirtual 209, 3) := by decide +kernel
theorem dX11_storm_131 : decode cX11_storm 131 = .ok (.ireturn, 1) := by decide +kernel
theorem dX11_storm_132 : decode cX11_storm 132 = .ok (.aload_n 0, 1) := by decide +kernel
theorem dX11_storm_133 : decode cX11_storm 133 = .ok (.getfield 10, 3) := by decide +kernel
theorem dX11_storm_136 : decode cX11_storm 136 = .ok (.getfield 142, 3) := by decide +kernel
theorem dX11_storm_139 : decode cX11_storm 139 = .ok (.iload 4, 2) := by decide +kernel
theorem dX11_storm_141 : decode cX11_storm 141 = .ok (.iload 5, 2) := by decide +kernel
theorem dX11_storm_143 : decode cX11_storm 143 = .ok (.invokevirtual 212, 3) := by decide +kernel
theorem dX11_storm_146 : decode cX11_storm 146 = .ok (.ireturn, 1) := by decide +kernel
theorem dX11_storm_147 : decode cX11_storm 147 = .ok (.iconst (-1), 1) := by decide +kernel
theorem dX11_storm_148 : decode cX11_storm 148 = .ok (.ireturn, 1) := by decide +kernel
theorem dX11_greatestStorm_0 : decode cX11_greatestStorm 0 = .ok (.aload_n 0, 1) := by decide +kernel
theorem dX11_greatestStorm_1 : decode cX11_greatestStorm 1 = .ok (.getfield 10, 3) := by decide +kernel
theorem dX11_greatestStorm_4 : decode cX11_greatestStorm 4 = .ok (.getfield 111, 3) := by decide +kernel
theorem dX11_greatestStorm_7 : decode cX11_greatestStorm 7 = .ok (.bipush 7, 2) := by decide +kernel
theorem dX11_greatestStorm_9 : decode cX11_greatestStorm 9 = .ok (.iaload, 1) := by decide +kernel
theorem dX11_greatestStorm_10 : decode cX11_greatestStorm 10 = .ok (.istore_n 1, 1) := by decide +kernel
theorem dX11_greatestStorm_11 : decode cX11_greatestStorm 11 = .ok (.aload_n 0, 1) := by decide +kernel
theorem dX11_greatestStorm_12 : decode cX11_greatestStorm 12 = .ok (.getfield 10, 3) := by decide +kernel
theorem dX11_greatestStorm_15 : decode cX11_greatestStorm 15 = .ok (.getfield 142, 3) := by decide +kernel
theorem dX11_greatestStorm_18 : decode cX11_greatestStorm 18 = .ok (.iload_n 1, 1) := by decide +kernel
theorem dX11_greatestStorm_19 : decode cX11_greatestStorm 19 = .ok (.invokevirtual 149, 3) := by decide +kernel
theorem dX11_greatestStorm_22 : decode cX11_greatestStorm 22 = .ok (.istore_n 2, 1) := by decide +kernel
theorem dX11_greatestStorm_23 : decode cX11_greatestStorm 23 = .ok (.bipush (-4), 2) := by decide +kernel
theorem dX11_greatestStorm_25 : decode cX11_greatestStorm 25 = .ok (.istore_n 3, 1) := by decide +kernel
theorem dX11_greatestStorm_26 : decode cX11_greatestStorm 26 = .ok (.iconst (-1), 1) := by decide +kernel
theorem dX11_greatestStorm_27 : decode cX11_greatestStorm 27 = .ok (.istore 4, 2) := by decide +kernel
theorem dX11_greatestStorm_29 : decode cX11_greatestStorm 29 = .ok (.iconst 0, 1) := by decide +kernel
theorem dX11_greatestStorm_30 : decode cX11_greatestStorm 30 = .ok (.istore 5, 2) := by decide +kernel
theorem dX11_greatestStorm_32 : decode cX11_greatestStorm 32 = .ok (.iload 5, 2) := by decide +kernel
theorem dX11_greatestStorm_34 : decode cX11_greatestStorm 34 = .ok (.iload_n 2, 1) := by decide +kernel
theorem dX11_greatestStorm_35 : decode cX11_greatestStorm 35 = .ok (.if_icmp .ge 72, 3) := by decide +kernel
theorem dX11_greatestStorm_38 : decode cX11_greatestStorm 38 = .ok (.aload_n 0, 1) := by decide +kernel
theorem dX11_greatestStorm_39 : decode cX11_greatestStorm 39 = .ok (.getfield 10, 3) := by decide +kernel
theorem dX11_greatestStorm_42 : decode cX11_greatestStorm 42 = .ok (.getfield 142, 3) := by decide +kernel
theorem dX11_greatestStorm_45 : decode cX11_greatestStorm 45 = .ok (.iload 5, 2) := by decide +kernel
theorem dX11_greatestStorm_47 : decode cX11_greatestStorm 47 = .ok (.iload_n 1, 1) := by decide +kernel
theorem dX11_greatestStorm_48 : decode cX11_greatestStorm 48 = .ok (.invokevirtual 197, 3) := by decide +kernel
theorem dX11_greatestStorm_51 : decode cX11_greatestStorm 51 = .ok (.istore 6, 2) := by decide +kernel
theorem dX11_greatestStorm_53 : decode cX11_greatestStorm 53 = .ok (.aload_n 0, 1) := by decide +kernel
theorem dX11_greatestStorm_54 : decode cX11_greatestStorm 54 = .ok (.getfield 10, 3) := by decide +kernel
theorem dX11_greatestStorm_57 : decode cX11_greatestStorm 57 = .ok (.getfield 142, 3) := by decide +kernel
theorem dX11_greatestStorm_60 : decode cX11_greatestStorm 60 = .ok (.iload 6, 2) := by decide +kernel
theorem dX11_greatestStorm_62 : decode cX11_greatestStorm 62 = .ok (.iload_n 1, 1) := by decide +kernel
theorem dX11_greatestStorm_63 : decode cX11_greatestStorm 63 = .ok (.invokevirtual 200, 3) := by decide +kernel
theorem dX11_greatestStorm_66 : decode cX11_greatestStorm 66 = .ok (.istore 7, 2) := by decide +kernel
theorem dX11_greatestStorm_68 : decode cX11_greatestStorm 68 = .ok (.aload_n 0, 1) := by decide +kernel
theorem dX11_greatestStorm_69 : decode cX11_greatestStorm 69 = .ok (.iload 6, 2) := by decide +kernel
theorem dX11_greatestStorm_71 : decode cX11_greatestStorm 71 = .ok (.iload 7, 2) := by decide +kernel
theorem dX11_greatestStorm_73 : decode cX11_greatestStorm 73 = .ok (.invokevirtual 206, 3) := by decide +kernel
theorem dX11_greatestStorm_76 : decode cX11_greatestStorm 76 = .ok (.aload_n 0, 1) := by decide +kernel
theorem dX11_greatestStorm_77 : decode cX11_greatestStorm 77 = .ok (.iload 6, 2) := by decide +kernel
theorem dX11_greatestStorm_79 : decode cX11_greatestStorm 79 = .ok (.iload 7, 2) := by decide +kernel
theorem dX11_greatestStorm_81 : decode cX11_greatestStorm 81 = .ok (.invokevirtual 209, 3) := by decide +kernel
theorem dX11_greatestStorm_84 : decode cX11_greatestStorm 84 = .ok (.iadd, 1) := by decide +kernel
theorem dX11_greatestStorm_85 : decode cX11_greatestStorm 85 = .ok (.istore 8, 2) := by decide +kernel
theorem dX11_greatestStorm_87 : decode cX11_greatestStorm 87 = .ok (.iload 8, 2) := by decide +kernel
theorem dX11_greatestStorm_89 : decode cX11_greatestStorm 89 = .ok (.iload 4, 2) := by decide +kernel
theorem dX11_greatestStorm_91 : decode cX11_greatestStorm 91 = .ok (.if_icmp .le 10, 3) := by decide +kernel
theorem dX11_greatestStorm_94 : decode cX11_greatestStorm 94 = .ok (.iload 8, 2) := by decide +kernel
theorem dX11_greatestStorm_96 : decode cX11_greatestStorm 96 = .ok (.istore 4, 2) := by decide +kernel
theorem dX11_greatestStorm_98 : decode cX11_greatestStorm 98 = .ok (.iload 5, 2) := by decide +kernel
theorem dX11_greatestStorm_100 : decode cX11_greatestStorm 100 = .ok (.istore_n 3, 1) := by decide +kernel
theorem dX11_greatestStorm_101 : decode cX11_greatestStorm 101 = .ok (.iinc 5 1, 3) := by decide +kernel
theorem dX11_greatestStorm_104 : decode cX11_greatestStorm 104 = .ok (.goto (-72), 3) := by decide +kernel
theorem dX11_greatestStorm_107 : decode cX11_greatestStorm 107 = .ok (.iload_n 3, 1) := by decide +kernel
theorem dX11_greatestStorm_108 : decode cX11_greatestStorm 108 = .ok (.ireturn, 1) := by decide +kernel
theorem dX11_gapForOne_0 : decode cX11_gapForOne 0 = .ok (.aload_n 0, 1) := by decide +kernel
theorem dX11_gapForOne_1 : decode cX11_gapForOne 1 = .ok (.getfield 10, 3) := by decide +kernel
theorem dX11_gapForOne_4 : decode cX11_gapForOne 4 = .ok (.getfield 142, 3) := by decide +kernel
theorem dX11_gapForOne_7 : decode cX11_gapForOne 7 = .ok (.getfield 146, 3) := by decide +kernel
theorem dX11_gapForOne_10 : decode cX11_gapForOne 10 = .ok (.ifCond .ne 6, 3) := by decide +kernel
theorem dX11_gapForOne_13 : decode cX11_gapForOne 13 = .ok (.bipush (-4), 2) := by decide +kernel
theorem dX11_gapForOne_15 : decode cX11_gapForOne 15 = .ok (.ireturn, 1) := by decide +kernel
theorem dX11_gapForOne_16 : decode cX11_gapForOne 16 = .ok (.iconst 1, 1) := by decide +kernel
theorem dX11_gapForOne_17 : decode cX11_gapForOne 17 = .ok (.aload_n 0, 1) := by decide +kernel
theorem dX11_gapForOne_18 : decode cX11_gapForOne 18 = .ok (.getfield 10, 3) := by decide +kernel
theorem dX11_gapForOne_21 : decode cX11_gapForOne 21 = .ok (.getfield 142, 3) := by decide +kernel
theorem dX11_gapForOne_24 : decode cX11_gapForOne 24 = .ok (.invokevirtual 215, 3) := by decide +kernel
theorem dX11_gapForOne_27 : decode cX11_gapForOne 27 = .ok (.invokestatic 218, 3) := by decide +kernel
theorem dX11_gapForOne_30 : decode cX11_gapForOne 30 = .ok (.istore_n 1, 1) := by decide +kernel
theorem dX11_gapForOne_31 : decode cX11_gapForOne 31 = .ok (.iload_n 1, 1) := by decide +kernel
theorem dX11_gapForOne_32 : decode cX11_gapForOne 32 = .ok (.sipush 1000, 3) := by decide +kernel
theorem dX11_gapForOne_35 : decode cX11_gapForOne 35 = .ok (.if_icmp .gt 7, 3) := by decide +kernel
theorem dX11_gapForOne_38 : decode cX11_gapForOne 38 = .ok (.iload_n 1, 1) := by decide +kernel
theorem dX11_gapForOne_39 : decode cX11_gapForOne 39 = .ok (.goto 5, 3) := by decide +kernel
theorem dX11_gapForOne_42 : decode cX11_gapForOne 42 = .ok (.bipush (-4), 2) := by decide +kernel
theorem dX11_gapForOne_44 : decode cX11_gapForOne 44 = .ok (.ireturn, 1) := by decide +kernel
theorem dX11_ifRun_0 : decode cX11_ifRun 0 = .ok (.iload_n 2, 1) := by decide +kernel
theorem dX11_ifRun_1 : decode cX11_ifRun 1 = .ok (.iconst 0, 1) := by decide +kernel
theorem dX11_ifRun_2 : decode cX11_ifRun 2 = .ok (.bipush 7, 2) := by decide +kernel
theorem dX11_ifRun_4 : decode cX11_ifRun 4 = .ok (.invokestatic 51, 3) := by decide +kernel
theorem dX11_ifRun_7 : decode cX11_ifRun 7 = .ok (.ifCond .ne 5, 3) := by decide +kernel
theorem dX11_ifRun_10 : decode cX11_ifRun 10 = .ok (.iconst (-1), 1) := by decide +kernel
theorem dX11_ifRun_11 : decode cX11_ifRun 11 = .ok (.ireturn, 1) := by decide +kernel
theorem dX11_ifRun_12 : decode cX11_ifRun 12 = .ok (.aload_n 0, 1) := by decide +kernel
theorem dX11_ifRun_13 : decode cX11_ifRun 13 = .ok (.iload_n 1, 1) := by decide +kernel
theorem dX11_ifRun_14 : decode cX11_ifRun 14 = .ok (.invokevirtual 94, 3) := by decide +kernel
theorem dX11_ifRun_17 : decode cX11_ifRun 17 = .ok (.istore_n 3, 1) := by decide +kernel
theorem dX11_ifRun_18 : decode cX11_ifRun 18 = .ok (.iload_n 3, 1) := by decide +kernel
theorem dX11_ifRun_19 : decode cX11_ifRun 19 = .ok (.ifCond .eq 5, 3) := by decide +kernel
theorem dX11_ifRun_22 : decode cX11_ifRun 22 = .ok (.iload_n 3, 1) := by decide +kernel
theorem dX11_ifRun_23 : decode cX11_ifRun 23 = .ok (.ireturn, 1) := by decide +kernel
theorem dX11_ifRun_24 : decode cX11_ifRun 24 = .ok (.aload_n 0, 1) := by decide +kernel
theorem dX11_ifRun_25 : decode cX11_ifRun 25 = .ok (.getfield 16, 3) := by decide +kernel
theorem dX11_ifRun_28 : decode cX11_ifRun 28 = .ok (.aload_n 0, 1) := by decide +kernel
theorem dX11_ifRun_29 : decode cX11_ifRun 29 = .ok (.getfield 10, 3) := by decide +kernel
theorem dX11_ifRun_32 : decode cX11_ifRun 32 = .ok (.invokevirtual 223, 3) := by decide +kernel
theorem dX11_ifRun_35 : decode cX11_ifRun 35 = .ok (.aload_n 0, 1) := by decide +kernel
theorem dX11_ifRun_36 : decode cX11_ifRun 36 = .ok (.getfield 16, 3) := by decide +kernel
theorem dX11_ifRun_39 : decode cX11_ifRun 39 = .ok (.iload_n 1, 1) := by decide +kernel
theorem dX11_ifRun_40 : decode cX11_ifRun 40 = .ok (.invokevirtual 98, 3) := by decide +kernel
theorem dX11_ifRun_43 : decode cX11_ifRun 43 = .ok (.istore 4, 2) := by decide +kernel
theorem dX11_ifRun_45 : decode cX11_ifRun 45 = .ok (.iload_n 2, 1) := by decide +kernel
theorem dX11_ifRun_46 : decode cX11_ifRun 46 = .ok (.tableswitch 79 0 7 #[46, 79, 79, 79, 79, 49, 60, 71], 46) := by decide +kernel
theorem dX11_ifRun_92 : decode cX11_ifRun 92 = .ok (.iload 4, 2) := by decide +kernel
theorem dX11_ifRun_94 : decode cX11_ifRun 94 = .ok (.ireturn, 1) := by decide +kernel
theorem dX11_ifRun_95 : decode cX11_ifRun 95 = .ok (.aload_n 0, 1) := by decide +kernel
theorem dX11_ifRun_96 : decode cX11_ifRun 96 = .ok (.getfield 16, 3) := by decide +kernel
theorem dX11_ifRun_99 : decode cX11_ifRun 99 = .ok (.getfield 152, 3) := by decide +kernel
theorem dX11_ifRun_102 : decode cX11_ifRun 102 = .ok (.getfield 156, 3) := by decide +kernel
theorem dX11_ifRun_105 : decode cX11_ifRun 105 = .ok (.ireturn, 1) := by decide +kernel
theorem dX11_ifRun_106 : decode cX11_ifRun 106 = .ok (.aload_n 0, 1) := by decide +kernel
theorem dX11_ifRun_107 : decode cX11_ifRun 107 = .ok (.getfield 16, 3) := by decide +kernel
theorem dX11_ifRun_110 : decode cX11_ifRun 110 = .ok (.getfield 161, 3) := by decide +kernel
theorem dX11_ifRun_113 : decode cX11_ifRun 113 = .ok (.getfield 165, 3) := by decide +kernel
theorem dX11_ifRun_116 : decode cX11_ifRun 116 = .ok (.ireturn, 1) := by decide +kernel
theorem dX11_ifRun_117 : decode cX11_ifRun 117 = .ok (.aload_n 0, 1) := by decide +kernel
theorem dX11_ifRun_118 : decode cX11_ifRun 118 = .ok (.getfield 16, 3) := by decide +kernel
theorem dX11_ifRun_121 : decode cX11_ifRun 121 = .ok (.invokevirtual 174, 3) := by decide +kernel
theorem dX11_ifRun_124 : decode cX11_ifRun 124 = .ok (.ireturn, 1) := by decide +kernel
theorem dX11_ifRun_125 : decode cX11_ifRun 125 = .ok (.aload_n 0, 1) := by decide +kernel
theorem dX11_ifRun_126 : decode cX11_ifRun 126 = .ok (.getfield 16, 3) := by decide +kernel
theorem dX11_ifRun_129 : decode cX11_ifRun 129 = .ok (.iload_n 2, 1) := by decide +kernel
theorem dX11_ifRun_130 : decode cX11_ifRun 130 = .ok (.invokevirtual 184, 3) := by decide +kernel
theorem dX11_ifRun_133 : decode cX11_ifRun 133 = .ok (.aload_n 0, 1) := by decide +kernel
theorem dX11_ifRun_134 : decode cX11_ifRun 134 = .ok (.getfield 10, 3) := by decide +kernel
theorem dX11_ifRun_137 : decode cX11_ifRun 137 = .ok (.iload_n 2, 1) := by decide +kernel
theorem dX11_ifRun_138 : decode cX11_ifRun 138 = .ok (.invokevirtual 184, 3) := by decide +kernel
theorem dX11_ifRun_141 : decode cX11_ifRun 141 = .ok (.isub, 1) := by decide +kernel
theorem dX11_ifRun_142 : decode cX11_ifRun 142 = .ok (.ireturn, 1) := by decide +kernel
theorem dX11_capacityFor_0 : decode cX11_capacityFor 0 = .ok (.iload_n 2, 1) := by decide +kernel
theorem dX11_capacityFor_1 : decode cX11_capacityFor 1 = .ok (.iconst 0, 1) := by decide +kernel
theorem dX11_capacityFor_2 : decode cX11_capacityFor 2 = .ok (.ldc 226, 2) := by decide +kernel
theorem dX11_capacityFor_4 : decode cX11_capacityFor 4 = .ok (.invokestatic 51, 3) := by decide +kernel
theorem dX11_capacityFor_7 : decode cX11_capacityFor 7 = .ok (.ifCond .ne 5, 3) := by decide +kernel
theorem dX11_capacityFor_10 : decode cX11_capacityFor 10 = .ok (.iconst (-1), 1) := by decide +kernel
theorem dX11_capacityFor_11 : decode cX11_capacityFor 11 = .ok (.ireturn, 1) := by decide +kernel
theorem dX11_capacityFor_12 : decode cX11_capacityFor 12 = .ok (.aload_n 0, 1) := by decide +kernel
theorem dX11_capacityFor_13 : decode cX11_capacityFor 13 = .ok (.iload_n 1, 1) := by decide +kernel
theorem dX11_capacityFor_14 : decode cX11_capacityFor 14 = .ok (.invokevirtual 94, 3) := by decide +kernel
theorem dX11_capacityFor_17 : decode cX11_capacityFor 17 = .ok (.istore_n 3, 1) := by decide +kernel
theorem dX11_capacityFor_18 : decode cX11_capacityFor 18 = .ok (.iload_n 3, 1) := by decide +kernel
theorem dX11_capacityFor_19 : decode cX11_capacityFor 19 = .ok (.ifCond .eq 5, 3) := by decide +kernel
theorem dX11_capacityFor_22 : decode cX11_capacityFor 22 = .ok (.iload_n 3, 1) := by decide +kernel
theorem dX11_capacityFor_23 : decode cX11_capacityFor 23 = .ok (.ireturn, 1) := by decide +kernel
theorem dX11_capacityFor_24 : decode cX11_capacityFor 24 = .ok (.aload_n 0, 1) := by decide +kernel
theorem dX11_capacityFor_25 : decode cX11_capacityFor 25 = .ok (.getfield 16, 3) := by decide +kernel
theorem dX11_capacityFor_28 : decode cX11_capacityFor 28 = .ok (.aload_n 0, 1) := by decide +kernel
theorem dX11_capacityFor_29 : decode cX11_capacityFor 29 = .ok (.getfield 10, 3) := by decide +kernel
theorem dX11_capacityFor_32 : decode cX11_capacityFor 32 = .ok (.invokevirtual 223, 3) := by decide +kernel
theorem dX11_capacityFor_35 : decode cX11_capacityFor 35 = .ok (.aload_n 0, 1) := by decide +kernel
theorem dX11_capacityFor_36 : decode cX11_capacityFor 36 = .ok (.getfield 29, 3) := by decide +kernel
theorem dX11_capacityFor_39 : decode cX11_capacityFor 39 = .ok (.aload_n 0, 1) := by decide +kernel
theorem dX11_capacityFor_40 : decode cX11_capacityFor 40 = .ok (.getfield 16, 3) := by decide +kernel
theorem dX11_capacityFor_43 : decode cX11_capacityFor 43 = .ok (.iload_n 1, 1) := by decide +kernel
theorem dX11_capacityFor_44 : decode cX11_capacityFor 44 = .ok (.invokevirtual 227, 3) := by decide +kernel
theorem dX11_capacityFor_47 : decode cX11_capacityFor 47 = .ok (.getstatic 105, 3) := by decide +kernel
theorem dX11_capacityFor_50 : decode cX11_capacityFor 50 = .ok (.iconst 0, 1) := by decide +kernel
theorem dX11_capacityFor_51 : decode cX11_capacityFor 51 = .ok (.iaload, 1) := by decide +kernel
theorem dX11_capacityFor_52 : decode cX11_capacityFor 52 = .ok (.istore 4, 2) := by decide +kernel
theorem dX11_capacityFor_54 : decode cX11_capacityFor 54 = .ok (.iload 4, 2) := by decide +kernel
theorem dX11_capacityFor_56 : decode cX11_capacityFor 56 = .ok (.getstatic 108, 3) := by decide +kernel
theorem dX11_capacityFor_59 : decode cX11_capacityFor 59 = .ok (.iconst 0, 1) := by decide +kernel
theorem dX11_capacityFor_60 : decode cX11_capacityFor 60 = .ok (.iaload, 1) := by decide +kernel
theorem dX11_capacityFor_61 : decode cX11_capacityFor 61 = .ok (.if_icmp .gt 46, 3) := by decide +kernel
theorem dX11_capacityFor_64 : decode cX11_capacityFor 64 = .ok (.aload_n 0, 1) := by decide +kernel
theorem dX11_capacityFor_65 : decode cX11_capacityFor 65 = .ok (.getfield 16, 3) := by decide +kernel
theorem dX11_capacityFor_68 : decode cX11_capacityFor 68 = .ok (.getfield 161, 3) := by decide +kernel
theorem dX11_capacityFor_71 : decode cX11_capacityFor 71 = .ok (.aload_n 0, 1) := by decide +kernel
theorem dX11_capacityFor_72 : decode cX11_capacityFor 72 = .ok (.getfield 10, 3) := by decide +kernel
theorem dX11_capacityFor_75 : decode cX11_capacityFor 75 = .ok (.getfield 161, 3) := by decide +kernel
theorem dX11_capacityFor_78 : decode cX11_capacityFor 78 = .ok (.invokevirtual 231, 3) := by decide +kernel
theorem dX11_capacityFor_81 : decode cX11_capacityFor 81 = .ok (.aload_n 0, 1) := by decide +kernel
theorem dX11_capacityFor_82 : decode cX11_capacityFor 82 = .ok (.getfield 29, 3) := by decide +kernel
theorem dX11_capacityFor_85 : decode cX11_capacityFor 85 = .ok (.iload_n 2, 1) := by decide +kernel
theorem dX11_capacityFor_86 : decode cX11_capacityFor 86 = .ok (.iload 4, 2) := by decide +kernel
theorem dX11_capacityFor_88 : decode cX11_capacityFor 88 = .ok (.aload_n 0, 1) := by decide +kernel
theorem dX11_capacityFor_89 : decode cX11_capacityFor 89 = .ok (.getfield 16, 3) := by decide +kernel
theorem dX11_capacityFor_92 : decode cX11_capacityFor 92 = .ok (.invokevirtual 234, 3) := by decide +kernel
theorem dX11_capacityFor_95 : decode cX11_capacityFor 95 = .ok (.ifCond .eq 6, 3) := by decide +kernel
theorem dX11_capacityFor_98 : decode cX11_capacityFor 98 = .ok (.iload 4, 2) := by decide +kernel
theorem dX11_capacityFor_100 : decode cX11_capacityFor 100 = .ok (.ireturn, 1) := by decide +kernel
theorem dX11_capacityFor_101 : decode cX11_capacityFor 101 = .ok (.iinc 4 1, 3) := by decide +kernel
theorem dX11_capacityFor_104 : decode cX11_capacityFor 104 = .ok (.goto (-50), 3) := by decide +kernel
theorem dX11_capacityFor_107 : decode cX11_capacityFor 107 = .ok (.bipush (-4), 2) := by decide +kernel
theorem dX11_capacityFor_109 : decode cX11_capacityFor 109 = .ok (.ireturn, 1) := by decide +kernel
theorem dX11_untilStop_0 : decode cX11_untilStop 0 = .ok (.aload_n 0, 1) := by decide +kernel
theorem dX11_untilStop_1 : decode cX11_untilStop 1 = .ok (.getfield 10, 3) := by decide +kernel
theorem dX11_untilStop_4 : decode cX11_untilStop 4 = .ok (.getfield 114, 3) := by decide +kernel
theorem dX11_untilStop_7 : decode cX11_untilStop 7 = .ok (.getfield 118, 3) := by decide +kernel
theorem dX11_untilStop_10 : decode cX11_untilStop 10 = .ok (.ireturn, 1) := by decide +kernel
theorem dX11_gearsFor_0 : decode cX11_gearsFor 0 = .ok (.iload_n 1, 1) := by decide +kernel
theorem dX11_gearsFor_1 : decode cX11_gearsFor 1 = .ok (.iconst 1, 1) := by decide +kernel
theorem dX11_gearsFor_2 : decode cX11_gearsFor 2 = .ok (.ldc 226, 2) := by decide +kernel
theorem dX11_gearsFor_4 : decode cX11_gearsFor 4 = .ok (.invokestatic 51, 3) := by decide +kernel
theorem dX11_gearsFor_7 : decode cX11_gearsFor 7 = .ok (.ifCond .ne 5, 3) := by decide +kernel
theorem dX11_gearsFor_10 : decode cX11_gearsFor 10 = .ok (.iconst (-1), 1) := by decide +kernel
theorem dX11_gearsFor_11 : decode cX11_gearsFor 11 = .ok (.ireturn, 1) := by decide +kernel
theorem dX11_gearsFor_12 : decode cX11_gearsFor 12 = .ok (.aload_n 0, 1) := by decide +kernel
theorem dX11_gearsFor_13 : decode cX11_gearsFor 13 = .ok (.getfield 10, 3) := by decide +kernel
theorem dX11_gearsFor_16 : decode cX11_gearsFor 16 = .ok (.getfield 111, 3) := by decide +kernel
theorem dX11_gearsFor_19 : decode cX11_gearsFor 19 = .ok (.iconst 5, 1) := by decide +kernel
theorem dX11_gearsFor_20 : decode cX11_gearsFor 20 = .ok (.iaload, 1) := by decide +kernel
theorem dX11_gearsFor_21 : decode cX11_gearsFor 21 = .ok (.istore_n 2, 1) := by decide +kernel
theorem dX11_gearsFor_22 : decode cX11_gearsFor 22 = .ok (.bipush 8, 2) := by decide +kernel
theorem dX11_gearsFor_24 : decode cX11_gearsFor 24 = .ok (.istore_n 3, 1) := by decide +kernel
theorem dX11_gearsFor_25 : decode cX11_gearsFor 25 = .ok (.iload_n 3, 1) := by decide +kernel
theorem dX11_gearsFor_26 : decode cX11_gearsFor 26 = .ok (.bipush 120, 2) := by decide +kernel
theorem dX11_gearsFor_28 : decode cX11_gearsFor 28 = .ok (.if_icmp .gt 49, 3) := by decide +kernel
theorem dX11_gearsFor_31 : decode cX11_gearsFor 31 = .ok (.iload_n 1, 1) := by decide +kernel
theorem dX11_gearsFor_32 : decode cX11_gearsFor 32 = .ok (.iload_n 3, 1) := by decide +kernel
theorem dX11_gearsFor_33 : decode cX11_gearsFor 33 = .ok (.imul, 1) := by decide +kernel
theorem dX11_gearsFor_34 : decode cX11_gearsFor 34 = .ok (.iload_n 2, 1) := by decide +kernel
theorem dX11_gearsFor_35 : decode cX11_gearsFor 35 = .ok (.invokestatic 238, 3) := by decide +kernel
theorem dX11_gearsFor_38 : decode cX11_gearsFor 38 = .ok (.istore 4, 2) := by decide +kernel
theorem dX11_gearsFor_40 : decode cX11_gearsFor 40 = .ok (.iload_n 2, 1) := by decide +kernel
theorem dX11_gearsFor_41 : decode cX11_gearsFor 41 = .ok (.iload 4, 2) := by decide +kernel
theorem dX11_gearsFor_43 : decode cX11_gearsFor 43 = .ok (.imul, 1) := by decide +kernel
theorem dX11_gearsFor_44 : decode cX11_gearsFor 44 = .ok (.iload_n 1, 1) := by decide +kernel
theorem dX11_gearsFor_45 : decode cX11_gearsFor 45 = .ok (.iload_n 3, 1) := by decide +kernel
theorem dX11_gearsFor_46 : decode cX11_gearsFor 46 = .ok (.imul, 1) := by decide +kernel
theorem dX11_gearsFor_47 : decode cX11_gearsFor 47 = .ok (.if_icmp .ne 24, 3) := by decide +kernel
theorem dX11_gearsFor_50 : decode cX11_gearsFor 50 = .ok (.iload 4, 2) := by decide +kernel
theorem dX11_gearsFor_52 : decode cX11_gearsFor 52 = .ok (.bipush 8, 2) := by decide +kernel
theorem dX11_gearsFor_54 : decode cX11_gearsFor 54 = .ok (.bipush 120, 2) := by decide +kernel
theorem dX11_gearsFor_56 : decode cX11_gearsFor 56 = .ok (.invokestatic 51, 3) := by decide +kernel
theorem dX11_gearsFor_59 : decode cX11_gearsFor 59 = .ok (.ifCond .eq 12, 3) := by decide +kernel
theorem dX11_gearsFor_62 : decode cX11_gearsFor 62 = .ok (.sipush 1000, 3) := by decide +kernel
theorem dX11_gearsFor_65 : decode cX11_gearsFor 65 = .ok (.iload_n 3, 1) := by decide +kernel
theorem dX11_gearsFor_66 : decode cX11_gearsFor 66 = .ok (.imul, 1) := by decide +kernel
theorem dX11_gearsFor_67 : decode cX11_gearsFor 67 = .ok (.iload 4, 2) := by decide +kernel
theorem dX11_gearsFor_69 : decode cX11_gearsFor 69 = .ok (.iadd, 1) := by decide +kernel
theorem dX11_gearsFor_70 : decode cX11_gearsFor 70 = .ok (.ireturn, 1) := by decide +kernel
theorem dX11_gearsFor_71 : decode cX11_gearsFor 71 = .ok (.iinc 3 1, 3) := by decide +kernel
theorem dX11_gearsFor_74 : decode cX11_gearsFor 74 = .ok (.goto (-49), 3) := by decide +kernel
theorem dX11_gearsFor_77 : decode cX11_gearsFor 77 = .ok (.bipush (-4), 2) := by decide +kernel
theorem dX11_gearsFor_79 : decode cX11_gearsFor 79 = .ok (.ireturn, 1) := by decide +kernel
theorem dX11_type_0 : decode cX11_type 0 = .ok (.iload_n 1, 1) := by decide +kernel
theorem dX11_type_1 : decode cX11_type 1 = .ok (.bipush 32, 2) := by decide +kernel
theorem dX11_type_3 : decode cX11_type 3 = .ok (.bipush 126, 2) := by decide +kernel
theorem dX11_type_5 : decode cX11_type 5 = .ok (.invokestatic 51, 3) := by decide +kernel
theorem dX11_type_8 : decode cX11_type 8 = .ok (.ifCond .ne 5, 3) := by decide +kernel
theorem dX11_type_11 : decode cX11_type 11 = .ok (.iconst (-1), 1) := by decide +kernel
theorem dX11_type_12 : decode cX11_type 12 = .ok (.ireturn, 1) := by decide +kernel
theorem dX11_type_13 : decode cX11_type 13 = .ok (.aload_n 0, 1) := by decide +kernel
theorem dX11_type_14 : decode cX11_type 14 = .ok (.getfield 36, 3) := by decide +kernel
theorem dX11_type_17 : decode cX11_type 17 = .ok (.getfield 178, 3) := by decide +kernel
theorem dX11_type_20 : decode cX11_type 20 = .ok (.bipush 100, 2) := by decide +kernel
theorem dX11_type_22 : decode cX11_type 22 = .ok (.if_icmp .lt 6, 3) := by decide +kernel
theorem dX11_type_25 : decode cX11_type 25 = .ok (.bipush (-3), 2) := by decide +kernel
theorem dX11_type_27 : decode cX11_type 27 = .ok (.ireturn, 1) := by decide +kernel
theorem dX11_type_28 : decode cX11_type 28 = .ok (.aload_n 0, 1) := by decide +kernel
theorem dX11_type_29 : decode cX11_type 29 = .ok (.getfield 36, 3) := by decide +kernel
theorem dX11_type_32 : decode cX11_type 32 = .ok (.iload_n 1, 1) := by decide +kernel
theorem dX11_type_33 : decode cX11_type 33 = .ok (.i2c, 1) := by decide +kernel
theorem dX11_type_34 : decode cX11_type 34 = .ok (.invokevirtual 241, 3) := by decide +kernel
theorem dX11_type_37 : decode cX11_type 37 = .ok (.aload_n 0, 1) := by decide +kernel
theorem dX11_type_38 : decode cX11_type 38 = .ok (.getfield 36, 3) := by decide +kernel
theorem dX11_type_41 : decode cX11_type 41 = .ok (.getfield 178, 3) := by decide +kernel
theorem dX11_type_44 : decode cX11_type 44 = .ok (.ireturn, 1) := by decide +kernel
theorem dX11_clearText_0 : decode cX11_clearText 0 = .ok (.aload_n 0, 1) := by decide +kernel
theorem dX11_clearText_1 : decode cX11_clearText 1 = .ok (.getfield 36, 3) := by decide +kernel
theorem dX11_clearText_4 : decode cX11_clearText 4 = .ok (.getfield 178, 3) := by decide +kernel
theorem dX11_clearText_7 : decode cX11_clearText 7 = .ok (.istore_n 1, 1) := by decide +kernel
theorem dX11_clearText_8 : decode cX11_clearText 8 = .ok (.aload_n 0, 1) := by decide +kernel
theorem dX11_clearText_9 : decode cX11_clearText 9 = .ok (.getfield 36, 3) := by decide +kernel
theorem dX11_clearText_12 : decode cX11_clearText 12 = .ok (.iconst 0, 1) := by decide +kernel
theorem dX11_clearText_13 : decode cX11_clearText 13 = .ok (.putfield 178, 3) := by decide +kernel
theorem dX11_clearText_16 : decode cX11_clearText 16 = .ok (.iload_n 1, 1) := by decide +kernel
theorem dX11_clearText_17 : decode cX11_clearText 17 = .ok (.ireturn, 1) := by decide +kernel
theorem dX11_fault_0 : decode cX11_fault 0 = .ok (.iload_n 1, 1) := by decide +kernel
theorem dX11_fault_1 : decode cX11_fault 1 = .ok (.iconst 0, 1) := by decide +kernel
theorem dX11_fault_2 : decode cX11_fault 2 = .ok (.iconst 1, 1) := by decide +kernel
theorem dX11_fault_3 : decode cX11_fault 3 = .ok (.invokestatic 51, 3) := by decide +kernel
theorem dX11_fault_6 : decode cX11_fault 6 = .ok (.ifCond .ne 5, 3) := by decide +kernel
theorem dX11_fault_9 : decode cX11_fault 9 = .ok (.iconst (-1), 1) := by decide +kernel
theorem dX11_fault_10 : decode cX11_fault 10 = .ok (.ireturn, 1) := by decide +kernel
theorem dX11_fault_11 : decode cX11_fault 11 = .ok (.aload_n 0, 1) := by decide +kernel
theorem dX11_fault_12 : decode cX11_fault 12 = .ok (.getfield 43, 3) := by decide +kernel
theorem dX11_fault_15 : decode cX11_fault 15 = .ok (.aload_n 0, 1) := by decide +kernel
theorem dX11_fault_16 : decode cX11_fault 16 = .ok (.getfield 36, 3) := by decide +kernel
theorem dX11_fault_19 : decode cX11_fault 19 = .ok (.aload_n 0, 1) := by decide +kernel
theorem dX11_fault_20 : decode cX11_fault 20 = .ok (.getfield 10, 3) := by decide +kernel
theorem dX11_fault_23 : decode cX11_fault 23 = .ok (.getfield 47, 3) := by decide +kernel
theorem dX11_fault_26 : decode cX11_fault 26 = .ok (.aload_n 0, 1) := by decide +kernel
theorem dX11_fault_27 : decode cX11_fault 27 = .ok (.getfield 10, 3) := by decide +kernel
theorem dX11_fault_30 : decode cX11_fault 30 = .ok (.getfield 55, 3) := by decide +kernel
theorem dX11_fault_33 : decode cX11_fault 33 = .ok (.getfield 59, 3) := by decide +kernel
theorem dX11_fault_36 : decode cX11_fault 36 = .ok (.invokevirtual 244, 3) := by decide +kernel
theorem dX11_fault_39 : decode cX11_fault 39 = .ok (.aload_n 0, 1) := by decide +kernel
theorem dX11_fault_40 : decode cX11_fault 40 = .ok (.getfield 43, 3) := by decide +kernel
theorem dX11_fault_43 : decode cX11_fault 43 = .ok (.getfield 248, 3) := by decide +kernel
theorem dX11_fault_46 : decode cX11_fault 46 = .ok (.ifCond .ne 6, 3) := by decide +kernel
theorem dX11_fault_49 : decode cX11_fault 49 = .ok (.bipush (-4), 2) := by decide +kernel
theorem dX11_fault_51 : decode cX11_fault 51 = .ok (.ireturn, 1) := by decide +kernel
theorem dX11_fault_52 : decode cX11_fault 52 = .ok (.iload_n 1, 1) := by decide +kernel
theorem dX11_fault_53 : decode cX11_fault 53 = .ok (.ifCond .ne 13, 3) := by decide +kernel
theorem dX11_fault_56 : decode cX11_fault 56 = .ok (.aload_n 0, 1) := by decide +kernel
theorem dX11_fault_57 : decode cX11_fault 57 = .ok (.getfield 43, 3) := by decide +kernel
theorem dX11_fault_60 : decode cX11_fault 60 = .ok (.getfield 251, 3) := by decide +kernel
theorem dX11_fault_63 : decode cX11_fault 63 = .ok (.goto 10, 3) := by decide +kernel
theorem dX11_fault_66 : decode cX11_fault 66 = .ok (.aload_n 0, 1) := by decide +kernel
theorem dX11_fault_67 : decode cX11_fault 67 = .ok (.getfield 43, 3) := by decide +kernel
theorem dX11_fault_70 : decode cX11_fault 70 = .ok (.getfield 248, 3) := by decide +kernel
theorem dX11_fault_73 : decode cX11_fault 73 = .ok (.ireturn, 1) := by decide +kernel
theorem dX11_lay_0 : decode cX11_lay 0 = .ok (.aload_n 0, 1) := by decide +kernel
theorem dX11_lay_1 : decode cX11_lay 1 = .ok (.getfield 43, 3) := by decide +kernel
theorem dX11_lay_4 : decode cX11_lay 4 = .ok (.aload_n 0, 1) := by decide +kernel
theorem dX11_lay_5 : decode cX11_lay 5 = .ok (.getfield 36, 3) := by decide +kernel
theorem dX11_lay_8 : decode cX11_lay 8 = .ok (.aload_n 0, 1) := by decide +kernel
theorem dX11_lay_9 : decode cX11_lay 9 = .ok (.getfield 10, 3) := by decide +kernel
theorem dX11_lay_12 : decode cX11_lay 12 = .ok (.getfield 47, 3) := by decide +kernel
theorem dX11_lay_15 : decode cX11_lay 15 = .ok (.aload_n 0, 1) := by decide +kernel
theorem dX11_lay_16 : decode cX11_lay 16 = .ok (.getfield 10, 3) := by decide +kernel
theorem dX11_lay_19 : decode cX11_lay 19 = .ok (.getfield 55, 3) := by decide +kernel
theorem dX11_lay_22 : decode cX11_lay 22 = .ok (.getfield 59, 3) := by decide +kernel
theorem dX11_lay_25 : decode cX11_lay 25 = .ok (.invokevirtual 244, 3) := by decide +kernel
theorem dX11_lay_28 : decode cX11_lay 28 = .ok (.aload_n 0, 1) := by decide +kernel
theorem dX11_lay_29 : decode cX11_lay 29 = .ok (.getfield 43, 3) := by decide +kernel
theorem dX11_lay_32 : decode cX11_lay 32 = .ok (.getfield 248, 3) := by decide +kernel
theorem dX11_lay_35 : decode cX11_lay 35 = .ok (.ifCond .eq 6, 3) := by decide +kernel
theorem dX11_lay_38 : decode cX11_lay 38 = .ok (.bipush (-2), 2) := by decide +kernel
theorem dX11_lay_40 : decode cX11_lay 40 = .ok (.ireturn, 1) := by decide +kernel
theorem dX11_lay_41 : decode cX11_lay 41 = .ok (.aload_n 0, 1) := by decide +kernel
theorem dX11_lay_42 : decode cX11_lay 42 = .ok (.getfield 22, 3) := by decide +kernel
theorem dX11_lay_45 : decode cX11_lay 45 = .ok (.aload_n 0, 1) := by decide +kernel
theorem dX11_lay_46 : decode cX11_lay 46 = .ok (.getfield 10, 3) := by decide +kernel
theorem dX11_lay_49 : decode cX11_lay 49 = .ok (.invokevirtual 64, 3) := by decide +kernel
theorem dX11_lay_52 : decode cX11_lay 52 = .ok (.iconst 0, 1) := by decide +kernel
theorem dX11_lay_53 : decode cX11_lay 53 = .ok (.istore_n 1, 1) := by decide +kernel
theorem dX11_lay_54 : decode cX11_lay 54 = .ok (.iload_n 1, 1) := by decide +kernel
theorem dX11_lay_55 : decode cX11_lay 55 = .ok (.aload_n 0, 1) := by decide +kernel
theorem dX11_lay_56 : decode cX11_lay 56 = .ok (.getfield 43, 3) := by decide +kernel
theorem dX11_lay_59 : decode cX11_lay 59 = .ok (.getfield 254, 3) := by decide +kernel
theorem dX11_lay_62 : decode cX11_lay 62 = .ok (.if_icmp .ge 53, 3) := by decide +kernel
theorem dX11_lay_65 : decode cX11_lay 65 = .ok (.iload_n 1, 1) := by decide +kernel
theorem dX11_lay_66 : decode cX11_lay 66 = .ok (.bipush 12, 2) := by decide +kernel
theorem dX11_lay_68 : decode cX11_lay 68 = .ok (.if_icmp .ge 47, 3) := by decide +kernel
theorem dX11_lay_71 : decode cX11_lay 71 = .ok (.aload_n 0, 1) := by decide +kernel
theorem dX11_lay_72 : decode cX11_lay 72 = .ok (.getfield 10, 3) := by decide +kernel
theorem dX11_lay_75 : decode cX11_lay 75 = .ok (.getfield 55, 3) := by decide +kernel
theorem dX11_lay_78 : decode cX11_lay 78 = .ok (.aload_n 0, 1) := by decide +kernel
theorem dX11_lay_79 : decode cX11_lay 79 = .ok (.getfield 43, 3) := by decide +kernel
theorem dX11_lay_82 : decode cX11_lay 82 = .ok (.getfield 255, 3) := by decide +kernel
theorem dX11_lay_85 : decode cX11_lay 85 = .ok (.iload_n 1, 1) := by decide +kernel
theorem dX11_lay_86 : decode cX11_lay 86 = .ok (.iaload, 1) := by decide +kernel
theorem dX11_lay_87 : decode cX11_lay 87 = .ok (.aload_n 0, 1) := by decide +kernel
theorem dX11_lay_88 : decode cX11_lay 88 = .ok (.getfield 43, 3) := by decide +kernel
theorem dX11_lay_91 : decode cX11_lay 91 = .ok (.getfield 256, 3) := by decide +kernel
theorem dX11_lay_94 : decode cX11_lay 94 = .ok (.iload_n 1, 1) := by decide +kernel
theorem dX11_lay_95 : decode cX11_lay 95 = .ok (.iaload, 1) := by decide +kernel
theorem dX11_lay_96 : decode cX11_lay 96 = .ok (.aload_n 0, 1) := by decide +kernel
theorem dX11_lay_97 : decode cX11_lay 97 = .ok (.getfield 43, 3) := by decide +kernel
theorem dX11_lay_100 : decode cX11_lay 100 = .ok (.getfield 257, 3) := by decide +kernel
theorem dX11_lay_103 : decode cX11_lay 103 = .ok (.iload_n 1, 1) := by decide +kernel
theorem dX11_lay_104 : decode cX11_lay 104 = .ok (.iaload, 1) := by decide +kernel
theorem dX11_lay_105 : decode cX11_lay 105 = .ok (.invokevirtual 68, 3) := by decide +kernel
theorem dX11_lay_108 : decode cX11_lay 108 = .ok (.pop, 1) := by decide +kernel
theorem dX11_lay_109 : decode cX11_lay 109 = .ok (.iinc 1 1, 3) := by decide +kernel
theorem dX11_lay_112 : decode cX11_lay 112 = .ok (.goto (-58), 3) := by decide +kernel
theorem dX11_lay_115 : decode cX11_lay 115 = .ok (.aload_n 0, 1) := by decide +kernel
theorem dX11_lay_116 : decode cX11_lay 116 = .ok (.getfield 43, 3) := by decide +kernel
theorem dX11_lay_119 : decode cX11_lay 119 = .ok (.getfield 254, 3) := by decide +kernel
theorem dX11_lay_122 : decode cX11_lay 122 = .ok (.ireturn, 1) := by decide +kernel
theorem dX11_errorOfTicks_0 : decode cX11_errorOfTicks 0 = .ok (.iload_n 1, 1) := by decide +kernel
theorem dX11_errorOfTicks_1 : decode cX11_errorOfTicks 1 = .ok (.iconst 1, 1) := by decide +kernel
theorem dX11_errorOfTicks_2 : decode cX11_errorOfTicks 2 = .ok (.sipush 1000, 3) := by decide +kernel
theorem dX11_errorOfTicks_5 : decode cX11_errorOfTicks 5 = .ok (.invokestatic 51, 3) := by decide +kernel
theorem dX11_errorOfTicks_8 : decode cX11_errorOfTicks 8 = .ok (.ifCond .ne 5, 3) := by decide +kernel
theorem dX11_errorOfTicks_11 : decode cX11_errorOfTicks 11 = .ok (.iconst (-1), 1) := by decide +kernel
theorem dX11_errorOfTicks_12 : decode cX11_errorOfTicks 12 = .ok (.ireturn, 1) := by decide +kernel
theorem dX11_errorOfTicks_13 : decode cX11_errorOfTicks 13 = .ok (.aload_n 0, 1) := by decide +kernel
theorem dX11_errorOfTicks_14 : decode cX11_errorOfTicks 14 = .ok (.getfield 10, 3) := by decide +kernel
theorem dX11_errorOfTicks_17 : decode cX11_errorOfTicks 17 = .ok (.getfield 47, 3) := by decide +kernel
theorem dX11_errorOfTicks_20 : decode cX11_errorOfTicks 20 = .ok (.iload_n 1, 1) := by decide +kernel
theorem dX11_errorOfTicks_21 : decode cX11_errorOfTicks 21 = .ok (.iadd, 1) := by decide +kernel
theorem dX11_errorOfTicks_22 : decode cX11_errorOfTicks 22 = .ok (.sipush 5000, 3) := by decide +kernel
theorem dX11_errorOfTicks_25 : decode cX11_errorOfTicks 25 = .ok (.if_icmp .le 8, 3) := by decide +kernel
theorem dX11_errorOfTicks_28 : decode cX11_errorOfTicks 28 = .ok (.bipush (-3), 2) := by decide +kernel
theorem dX11_errorOfTicks_30 : decode cX11_errorOfTicks 30 = .ok (.goto 4, 3) := by decide +kernel
theorem dX11_errorOfTicks_33 : decode cX11_errorOfTicks 33 = .ok (.iconst 0, 1) := by decide +kernel
theorem dX11_errorOfTicks_34 : decode cX11_errorOfTicks 34 = .ok (.ireturn, 1) := by decide +kernel
theorem dX11_amountOf_0 : decode cX11_amountOf 0 = .ok (.iload_n 2, 1) := by decide +kernel
theorem dX11_amountOf_1 : decode cX11_amountOf 1 = .ok (.iload_n 1, 1) := by decide +kernel
theorem dX11_amountOf_2 : decode cX11_amountOf 2 = .ok (.isub, 1) := by decide +kernel
theorem dX11_amountOf_3 : decode cX11_amountOf 3 = .ok (.aload_n 0, 1) := by decide +kernel
theorem dX11_amountOf_4 : decode cX11_amountOf 4 = .ok (.getfield 10, 3) := by decide +kernel
theorem dX11_amountOf_7 : decode cX11_amountOf 7 = .ok (.getfield 111, 3) := by decide +kernel
theorem dX11_amountOf_10 : decode cX11_amountOf 10 = .ok (.iconst 0, 1) := by decide +kernel
theorem dX11_amountOf_11 : decode cX11_amountOf 11 = .ok (.iaload, 1) := by decide +kernel
theorem dX11_amountOf_12 : decode cX11_amountOf 12 = .ok (.imul, 1) := by decide +kernel
theorem dX11_amountOf_13 : decode cX11_amountOf 13 = .ok (.ireturn, 1) := by decide +kernel
theorem dX11_lossOf_0 : decode cX11_lossOf 0 = .ok (.aload_n 0, 1) := by decide +kernel
theorem dX11_lossOf_1 : decode cX11_lossOf 1 = .ok (.getfield 10, 3) := by decide +kernel
theorem dX11_lossOf_4 : decode cX11_lossOf 4 = .ok (.getfield 142, 3) := by decide +kernel
theorem dX11_lossOf_7 : decode cX11_lossOf 7 = .ok (.iload_n 1, 1) := by decide +kernel
theorem dX11_lossOf_8 : decode cX11_lossOf 8 = .ok (.iload_n 2, 1) := by decide +kernel
theorem dX11_lossOf_9 : decode cX11_lossOf 9 = .ok (.aload_n 0, 1) := by decide +kernel
theorem dX11_lossOf_10 : decode cX11_lossOf 10 = .ok (.getfield 10, 3) := by decide +kernel
theorem dX11_lossOf_13 : decode cX11_lossOf 13 = .ok (.getfield 111, 3) := by decide +kernel
theorem dX11_lossOf_16 : decode cX11_lossOf 16 = .ok (.iconst 0, 1) := by decide +kernel
theorem dX11_lossOf_17 : decode cX11_lossOf 17 = .ok (.iaload, 1) := by decide +kernel
theorem dX11_lossOf_18 : decode cX11_lossOf 18 = .ok (.aload_n 0, 1) := by decide +kernel
theorem dX11_lossOf_19 : decode cX11_lossOf 19 = .ok (.getfield 10, 3) := by decide +kernel
theorem dX11_lossOf_22 : decode cX11_lossOf 22 = .ok (.getfield 111, 3) := by decide +kernel
theorem dX11_lossOf_25 : decode cX11_lossOf 25 = .ok (.iconst 1, 1) := by decide +kernel
theorem dX11_lossOf_26 : decode cX11_lossOf 26 = .ok (.iaload, 1) := by decide +kernel
theorem dX11_lossOf_27 : decode cX11_lossOf 27 = .ok (.imul, 1) := by decide +kernel
theorem dX11_lossOf_28 : decode cX11_lossOf 28 = .ok (.invokevirtual 258, 3) := by decide +kernel
theorem dX11_lossOf_31 : decode cX11_lossOf 31 = .ok (.ireturn, 1) := by decide +kernel
theorem dX11_isWithin_0 : decode cX11_isWithin 0 = .ok (.iload_n 0, 1) := by decide +kernel
theorem dX11_isWithin_1 : decode cX11_isWithin 1 = .ok (.iload_n 1, 1) := by decide +kernel
theorem dX11_isWithin_2 : decode cX11_isWithin 2 = .ok (.if_icmp .lt 12, 3) := by decide +kernel
theorem dX11_isWithin_5 : decode cX11_isWithin 5 = .ok (.iload_n 0, 1) := by decide +kernel
theorem dX11_isWithin_6 : decode cX11_isWithin 6 = .ok (.iload_n 2, 1) := by decide +kernel
theorem dX11_isWithin_7 : decode cX11_isWithin 7 = .ok (.if_icmp .gt 7, 3) := by decide +kernel
theorem dX11_isWithin_10 : decode cX11_isWithin 10 = .ok (.iconst 1, 1) := by decide +kernel
theorem dX11_isWithin_11 : decode cX11_isWithin 11 = .ok (.goto 4, 3) := by decide +kernel
theorem dX11_isWithin_14 : decode cX11_isWithin 14 = .ok (.iconst 0, 1) := by decide +kernel
theorem dX11_isWithin_15 : decode cX11_isWithin 15 = .ok (.ireturn, 1) := by decide +kernel
theorem dX11_quotient_0 : decode cX11_quotient 0 = .ok (.iload_n 1, 1) := by decide +kernel
theorem dX11_quotient_1 : decode cX11_quotient 1 = .ok (.ifCond .ne 7, 3) := by decide +kernel
theorem dX11_quotient_4 : decode cX11_quotient 4 = .ok (.iconst 0, 1) := by decide +kernel
theorem dX11_quotient_5 : decode cX11_quotient 5 = .ok (.goto 8, 3) := by decide +kernel
theorem dX11_quotient_8 : decode cX11_quotient 8 = .ok (.iload_n 0, 1) := by decide +kernel
theorem dX11_quotient_9 : decode cX11_quotient 9 = .ok (.iload_n 1, 1) := by decide +kernel
theorem dX11_quotient_10 : decode cX11_quotient 10 = .ok (.invokestatic 261, 3) := by decide +kernel
theorem dX11_quotient_13 : decode cX11_quotient 13 = .ok (.ireturn, 1) := by decide +kernel
theorem dX11_copyRow_0 : decode cX11_copyRow 0 = .ok (.aload_n 0, 1) := by decide +kernel
theorem dX11_copyRow_1 : decode cX11_copyRow 1 = .ok (.iconst 0, 1) := by decide +kernel
theorem dX11_copyRow_2 : decode cX11_copyRow 2 = .ok (.aload_n 1, 1) := by decide +kernel
theorem dX11_copyRow_3 : decode cX11_copyRow 3 = .ok (.iconst 0, 1) := by decide +kernel
theorem dX11_copyRow_4 : decode cX11_copyRow 4 = .ok (.aload_n 0, 1) := by decide +kernel
theorem dX11_copyRow_5 : decode cX11_copyRow 5 = .ok (.arraylength, 1) := by decide +kernel
theorem dX11_copyRow_6 : decode cX11_copyRow 6 = .ok (.aload_n 1, 1) := by decide +kernel
theorem dX11_copyRow_7 : decode cX11_copyRow 7 = .ok (.arraylength, 1) := by decide +kernel
theorem dX11_copyRow_8 : decode cX11_copyRow 8 = .ok (.invokestatic 264, 3) := by decide +kernel
theorem dX11_copyRow_11 : decode cX11_copyRow 11 = .ok (.invokestatic 267, 3) := by decide +kernel
theorem dX11_copyRow_14 : decode cX11_copyRow 14 = .ok (.return_, 1) := by decide +kernel
theorem dX12_init_0 : decode cX12_init 0 = .ok (.aload_n 0, 1) := by decide +kernel
theorem dX12_init_1 : decode cX12_init 1 = .ok (.invokespecial 1, 3) := by decide +kernel
theorem dX12_init_4 : decode cX12_init 4 = .ok (.aload_n 0, 1) := by decide +kernel
theorem dX12_init_5 : decode cX12_init 5 = .ok (.sipush 244, 3) := by decide +kernel
theorem dX12_init_8 : decode cX12_init 8 = .ok (.newarray .int, 2) := by decide +kernel
theorem dX12_init_10 : decode cX12_init 10 = .ok (.putfield 7, 3) := by decide +kernel
theorem dX12_init_13 : decode cX12_init 13 = .ok (.aload_n 0, 1) := by decide +kernel
theorem dX12_init_14 : decode cX12_init 14 = .ok (.sipush 1220, 3) := by decide +kernel
theorem dX12_init_17 : decode cX12_init 17 = .ok (.newarray .int, 2) := by decide +kernel
theorem dX12_init_19 : decode cX12_init 19 = .ok (.putfield 13, 3) := by decide +kernel
theorem dX12_init_22 : decode cX12_init 22 = .ok (.aload_n 0, 1) := by decide +kernel
theorem dX12_init_23 : decode cX12_init 23 = .ok (.sipush 244, 3) := by decide +kernel
theorem dX12_init_26 : decode cX12_init 26 = .ok (.newarray .int, 2) := by decide +kernel
theorem dX12_init_28 : decode cX12_init 28 = .ok (.putfield 16, 3) := by decide +kernel
theorem dX12_init_31 : decode cX12_init 31 = .ok (.aload_n 0, 1) := by decide +kernel
theorem dX12_init_32 : decode cX12_init 32 = .ok (.bipush 100, 2) := by decide +kernel
theorem dX12_init_34 : decode cX12_init 34 = .ok (.newarray .char, 2) := by decide +kernel
theorem dX12_init_36 : decode cX12_init 36 = .ok (.putfield 19, 3) := by decide +kernel
theorem dX12_init_39 : decode cX12_init 39 = .ok (.aload_n 0, 1) := by decide +kernel
theorem dX12_init_40 : decode cX12_init 40 = .ok (.bipush 48, 2) := by decide +kernel
theorem dX12_init_42 : decode cX12_init 42 = .ok (.newarray .int, 2) := by decide +kernel
theorem dX12_init_44 : decode cX12_init 44 = .ok (.putfield 23, 3) := by decide +kernel
theorem dX12_init_47 : decode cX12_init 47 = .ok (.aload_n 0, 1) := by decide +kernel
theorem dX12_init_48 : decode cX12_init 48 = .ok (.bipush 61, 2) := by decide +kernel
theorem dX12_init_50 : decode cX12_init 50 = .ok (.newarray .int, 2) := by decide +kernel
theorem dX12_init_52 : decode cX12_init 52 = .ok (.putfield 26, 3) := by decide +kernel
theorem dX12_init_55 : decode cX12_init 55 = .ok (.aload_n 0, 1) := by decide +kernel
theorem dX12_init_56 : decode cX12_init 56 = .ok (.getfield 7, 3) := by decide +kernel
theorem dX12_init_59 : decode cX12_init 59 = .ok (.bipush 11, 2) := by decide +kernel
theorem dX12_init_61 : decode cX12_init 61 = .ok (.bipush 100, 2) := by decide +kernel
theorem dX12_init_63 : decode cX12_init 63 = .ok (.iastore, 1) := by decide +kernel
theorem dX12_init_64 : decode cX12_init 64 = .ok (.aload_n 0, 1) := by decide +kernel
theorem dX12_init_65 : decode cX12_init 65 = .ok (.getfield 7, 3) := by decide +kernel
theorem dX12_init_68 : decode cX12_init 68 = .ok (.bipush 12, 2) := by decide +kernel
theorem dX12_init_70 : decode cX12_init 70 = .ok (.iconst 2, 1) := by decide +kernel
theorem dX12_init_71 : decode cX12_init 71 = .ok (.iastore, 1) := by decide +kernel
theorem dX12_init_72 : decode cX12_init 72 = .ok (.aload_n 0, 1) := by decide +kernel
theorem dX12_init_73 : decode cX12_init 73 = .ok (.getfield 7, 3) := by decide +kernel
theorem dX12_init_76 : decode cX12_init 76 = .ok (.bipush 13, 2) := by decide +kernel
theorem dX12_init_78 : decode cX12_init 78 = .ok (.bipush 10, 2) := by decide +kernel
theorem dX12_init_80 : decode cX12_init 80 = .ok (.iastore, 1) := by decide +kernel
theorem dX12_init_81 : decode cX12_init 81 = .ok (.aload_n 0, 1) := by decide +kernel
theorem dX12_init_82 : decode cX12_init 82 = .ok (.getfield 7, 3) := by decide +kernel
theorem dX12_init_85 : decode cX12_init 85 = .ok (.bipush 14, 2) := by decide +kernel
theorem dX12_init_87 : decode cX12_init 87 = .ok (.iconst 1, 1) := by decide +kernel
theorem dX12_init_88 : decode cX12_init 88 = .ok (.iastore, 1) := by decide +kernel
theorem dX12_init_89 : decode cX12_init 89 = .ok (.aload_n 0, 1) := by decide +kernel
theorem dX12_init_90 : decode cX12_init 90 = .ok (.getfield 7, 3) := by decide +kernel
theorem dX12_init_93 : decode cX12_init 93 = .ok (.bipush 16, 2) := by decide +kernel
theorem dX12_init_95 : decode cX12_init 95 = .ok (.sipush 360, 3) := by decide +kernel
theorem dX12_init_98 : decode cX12_init 98 = .ok (.iastore, 1) := by decide +kernel
theorem dX12_init_99 : decode cX12_init 99 = .ok (.aload_n 0, 1) := by decide +kernel
theorem dX12_init_100 : decode cX12_init 100 = .ok (.getfield 7, 3) := by decide +kernel
theorem dX12_init_103 : decode cX12_init 103 = .ok (.bipush 17, 2) := by decide +kernel
theorem dX12_init_105 : decode cX12_init 105 = .ok (.sipush 500, 3) := by decide +kernel
theorem dX12_init_108 : decode cX12_init 108 = .ok (.iastore, 1) := by decide +kernel
theorem dX12_init_109 : decode cX12_init 109 = .ok (.aload_n 0, 1) := by decide +kernel
theorem dX12_init_110 : decode cX12_init 110 = .ok (.getfield 7, 3) := by decide +kernel
theorem dX12_init_113 : decode cX12_init 113 = .ok (.bipush 18, 2) := by decide +kernel
theorem dX12_init_115 : decode cX12_init 115 = .ok (.bipush 60, 2) := by decide +kernel
theorem dX12_init_117 : decode cX12_init 117 = .ok (.iastore, 1) := by decide +kernel
theorem dX12_init_118 : decode cX12_init 118 = .ok (.aload_n 0, 1) := by decide +kernel
theorem dX12_init_119 : decode cX12_init 119 = .ok (.getfield 7, 3) := by decide +kernel
theorem dX12_init_122 : decode cX12_init 122 = .ok (.iconst 4, 1) := by decide +kernel
theorem dX12_init_123 : decode cX12_init 123 = .ok (.sipush 500, 3) := by decide +kernel
theorem dX12_init_126 : decode cX12_init 126 = .ok (.iastore, 1) := by decide +kernel
theorem dX12_init_127 : decode cX12_init 127 = .ok (.return_, 1) := by decide +kernel
theorem dX12_in_0 : decode cX12_in 0 = .ok (.iload_n 0, 1) := by decide +kernel
theorem dX12_in_1 : decode cX12_in 1 = .ok (.iload_n 1, 1) := by decide +kernel
theorem dX12_in_2 : decode cX12_in 2 = .ok (.if_icmp .lt 12, 3) := by decide +kernel
theorem dX12_in_5 : decode cX12_in 5 = .ok (.iload_n 0, 1) := by decide +kernel
theorem dX12_in_6 : decode cX12_in 6 = .ok (.iload_n 2, 1) := by decide +kernel
theorem dX12_in_7 : decode cX12_in 7 = .ok (.if_icmp .gt 7, 3) := by decide +kernel
theorem dX12_in_10 : decode cX12_in 10 = .ok (.iconst 1, 1) := by decide +kernel
theorem dX12_in_11 : decode cX12_in 11 = .ok (.goto 4, 3) := by decide +kernel
theorem dX12_in_14 : decode cX12_in 14 = .ok (.iconst 0, 1) := by decide +kernel
theorem dX12_in_15 : decode cX12_in 15 = .ok (.ireturn, 1) := by decide +kernel
theorem dX12_less_0 : decode cX12_less 0 = .ok (.iload_n 0, 1) := by decide +kernel
theorem dX12_less_1 : decode cX12_less 1 = .ok (.iload_n 1, 1) := by decide +kernel
theorem dX12_less_2 : decode cX12_less 2 = .ok (.if_icmp .ge 7, 3) := by decide +kernel
theorem dX12_less_5 : decode cX12_less 5 = .ok (.iload_n 0, 1) := by decide +kernel
theorem dX12_less_6 : decode cX12_less 6 = .ok (.goto 4, 3) := by decide +kernel
theorem dX12_less_9 : decode cX12_less 9 = .ok (.iload_n 1, 1) := by decide +kernel
theorem dX12_less_10 : decode cX12_less 10 = .ok (.ireturn, 1) := by decide +kernel
theorem dX12_records_0 : decode cX12_records 0 = .ok (.aload_n 0, 1) := by decide +kernel
theorem dX12_records_1 : decode cX12_records 1 = .ok (.getfield 29, 3) := by decide +kernel
theorem dX12_records_4 : decode cX12_records 4 = .ok (.iconst 5, 1) := by decide +kernel
theorem dX12_records_5 : decode cX12_records 5 = .ok (.if_icmp .ne 44, 3) := by decide +kernel
theorem dX12_records_8 : decode cX12_records 8 = .ok (.iconst 0, 1) := by decide +kernel
theorem dX12_records_9 : decode cX12_records 9 = .ok (.istore_n 1, 1) := by decide +kernel
theorem dX12_records_10 : decode cX12_records 10 = .ok (.iload_n 1, 1) := by decide +kernel
theorem dX12_records_11 : decode cX12_records 11 = .ok (.sipush 976, 3) := by decide +kernel
theorem dX12_records_14 : decode cX12_records 14 = .ok (.if_icmp .ge 25, 3) := by decide +kernel
theorem dX12_records_17 : decode cX12_records 17 = .ok (.aload_n 0, 1) := by decide +kernel
theorem dX12_records_18 : decode cX12_records 18 = .ok (.getfield 13, 3) := by decide +kernel
theorem dX12_records_21 : decode cX12_records 21 = .ok (.iload_n 1, 1) := by decide +kernel
theorem dX12_records_22 : decode cX12_records 22 = .ok (.aload_n 0, 1) := by decide +kernel
theorem dX12_records_23 : decode cX12_records 23 = .ok (.getfield 13, 3) := by decide +kernel
theorem dX12_records_26 : decode cX12_records 26 = .ok (.iload_n 1, 1) := by decide +kernel
theorem dX12_records_27 : decode cX12_records 27 = .ok (.sipush 244, 3) := by decide +kernel
theorem dX12_records_30 : decode cX12_records 30 = .ok (.iadd, 1) := by decide +kernel
theorem dX12_records_31 : decode cX12_records 31 = .ok (.iaload, 1) := by decide +kernel
theorem dX12_records_32 : decode cX12_records 32 = .ok (.iastore, 1) := by decide +kernel
theorem dX12_records_33 : decode cX12_records 33 = .ok (.iinc 1 1, 3) := by decide +kernel
theorem dX12_records_36 : decode cX12_records 36 = .ok (.goto (-26), 3) := by decide +kernel
theorem dX12_records_39 : decode cX12_records 39 = .ok (.aload_n 0, 1) := by decide +kernel
theorem dX12_records_40 : decode cX12_records 40 = .ok (.dup, 1) := by decide +kernel
theorem dX12_records_41 : decode cX12_records 41 = .ok (.getfield 29, 3) := by decide +kernel
theorem dX12_records_44 : decode cX12_records 44 = .ok (.iconst 1, 1) := by decide +kernel
theorem dX12_records_45 : decode cX12_records 45 = .ok (.isub, 1) := by decide +kernel
theorem dX12_records_46 : decode cX12_records 46 = .ok (.putfield 29, 3) := by decide +kernel
theorem dX12_records_49 : decode cX12_records 49 = .ok (.iconst 0, 1) := by decide +kernel
theorem dX12_records_50 : decode cX12_records 50 = .ok (.istore_n 1, 1) := by decide +kernel
theorem dX12_records_51 : decode cX12_records 51 = .ok (.iload_n 1, 1) := by decide +kernel
theorem dX12_records_52 : decode cX12_records 52 = .ok (.sipush 244, 3) := by decide +kernel
theorem dX12_records_55 : decode cX12_records 55 = .ok (.if_icmp .ge 30, 3) := by decide +kernel
theorem dX12_records_58 : decode cX12_records 58 = .ok (.aload_n 0, 1) := by decide +kernel
theorem dX12_records_59 : decode cX12_records 59 = .ok (.getfield 13, 3) := by decide +kernel
theorem dX12_records_62 : decode cX12_records 62 = .ok (.sipush 244, 3) := by decide +kernel
theorem dX12_records_65 : decode cX12_records 65 = .ok (.aload_n 0, 1) := by decide +kernel
theorem dX12_records_66 : decode cX12_records 66 = .ok (.getfield 29, 3) := by decide +kernel
theorem dX12_records_69 : decode cX12_records 69 = .ok (.imul, 1) := by decide +kernel
theorem dX12_records_70 : decode cX12_records 70 = .ok (.iload_n 1, 1) := by decide +kernel
theorem dX12_records_71 : decode cX12_records 71 = .ok (.iadd, 1) := by decide +kernel
theorem dX12_records_72 : decode cX12_records 72 = .ok (.aload_n 0, 1) := by decide +kernel
theorem dX12_records_73 : decode cX12_records 73 = .ok (.getfield 7, 3) := by decide +kernel
end
section
theorem dX12_records_76 : decode cX12_records 76 = .ok (.iload_n 1, 1) := by decide +kernel
theorem dX12_records_77 : decode cX12_records 77 = .ok (.iaload, 1) := by decide +kernel
theorem dX12_records_78 : decode cX12_records 78 = .ok (.iastore, 1) := by decide +kernel
theorem dX12_records_79 : decode cX12_records 79 = .ok (.iinc 1 1, 3) := by decide +kernel
theorem dX12_records_82 : decode cX12_records 82 = .ok (.goto (-31), 3) := by decide +kernel
theorem dX12_records_85 : decode cX12_records 85 = .ok (.aload_n 0, 1) := by decide +kernel
theorem dX12_records_86 : decode cX12_records 86 = .ok (.dup, 1) := by decide +kernel
theorem dX12_records_87 : decode cX12_records 87 = .ok (.getfield 29, 3) := by decide +kernel
theorem dX12_records_90 : decode cX12_records 90 = .ok (.iconst 1, 1) := by decide +kernel
theorem dX12_records_91 : decode cX12_records 91 = .ok (.iadd, 1) := by decide +kernel
theorem dX12_records_92 : decode cX12_records 92 = .ok (.putfield 29, 3) := by decide +kernel
theorem dX12_records_95 : decode cX12_records 95 = .ok (.return_, 1) := by decide +kernel
theorem dX12_keeps_0 : decode cX12_keeps 0 = .ok (.iconst 0, 1) := by decide +kernel
theorem dX12_keeps_1 : decode cX12_keeps 1 = .ok (.istore_n 1, 1) := by decide +kernel
theorem dX12_keeps_2 : decode cX12_keeps 2 = .ok (.iload_n 1, 1) := by decide +kernel
theorem dX12_keeps_3 : decode cX12_keeps 3 = .ok (.sipush 244, 3) := by decide +kernel
theorem dX12_keeps_6 : decode cX12_keeps 6 = .ok (.if_icmp .ge 21, 3) := by decide +kernel
theorem dX12_keeps_9 : decode cX12_keeps 9 = .ok (.aload_n 0, 1) := by decide +kernel
theorem dX12_keeps_10 : decode cX12_keeps 10 = .ok (.getfield 16, 3) := by decide +kernel
theorem dX12_keeps_13 : decode cX12_keeps 13 = .ok (.iload_n 1, 1) := by decide +kernel
theorem dX12_keeps_14 : decode cX12_keeps 14 = .ok (.aload_n 0, 1) := by decide +kernel
theorem dX12_keeps_15 : decode cX12_keeps 15 = .ok (.getfield 7, 3) := by decide +kernel
theorem dX12_keeps_18 : decode cX12_keeps 18 = .ok (.iload_n 1, 1) := by decide +kernel
theorem dX12_keeps_19 : decode cX12_keeps 19 = .ok (.iaload, 1) := by decide +kernel
theorem dX12_keeps_20 : decode cX12_keeps 20 = .ok (.iastore, 1) := by decide +kernel
theorem dX12_keeps_21 : decode cX12_keeps 21 = .ok (.iinc 1 1, 3) := by decide +kernel
theorem dX12_keeps_24 : decode cX12_keeps 24 = .ok (.goto (-22), 3) := by decide +kernel
theorem dX12_keeps_27 : decode cX12_keeps 27 = .ok (.return_, 1) := by decide +kernel
theorem dX12_restores_0 : decode cX12_restores 0 = .ok (.iconst 0, 1) := by decide +kernel
theorem dX12_restores_1 : decode cX12_restores 1 = .ok (.istore_n 1, 1) := by decide +kernel
theorem dX12_restores_2 : decode cX12_restores 2 = .ok (.iload_n 1, 1) := by decide +kernel
theorem dX12_restores_3 : decode cX12_restores 3 = .ok (.sipush 244, 3) := by decide +kernel
theorem dX12_restores_6 : decode cX12_restores 6 = .ok (.if_icmp .ge 21, 3) := by decide +kernel
theorem dX12_restores_9 : decode cX12_restores 9 = .ok (.aload_n 0, 1) := by decide +kernel
theorem dX12_restores_10 : decode cX12_restores 10 = .ok (.getfield 7, 3) := by decide +kernel
theorem dX12_restores_13 : decode cX12_restores 13 = .ok (.iload_n 1, 1) := by decide +kernel
theorem dX12_restores_14 : decode cX12_restores 14 = .ok (.aload_n 0, 1) := by decide +kernel
theorem dX12_restores_15 : decode cX12_restores 15 = .ok (.getfield 16, 3) := by decide +kernel
theorem dX12_restores_18 : decode cX12_restores 18 = .ok (.iload_n 1, 1) := by decide +kernel
theorem dX12_restores_19 : decode cX12_restores 19 = .ok (.iaload, 1) := by decide +kernel
theorem dX12_restores_20 : decode cX12_restores 20 = .ok (.iastore, 1) := by decide +kernel
theorem dX12_restores_21 : decode cX12_restores 21 = .ok (.iinc 1 1, 3) := by decide +kernel
theorem dX12_restores_24 : decode cX12_restores 24 = .ok (.goto (-22), 3) := by decide +kernel
theorem dX12_restores_27 : decode cX12_restores 27 = .ok (.return_, 1) := by decide +kernel
theorem dX12_rain_0 : decode cX12_rain 0 = .ok (.iconst 0, 1) := by decide +kernel
theorem dX12_rain_1 : decode cX12_rain 1 = .ok (.istore_n 1, 1) := by decide +kernel
theorem dX12_rain_2 : decode cX12_rain 2 = .ok (.iconst 0, 1) := by decide +kernel
theorem dX12_rain_3 : decode cX12_rain 3 = .ok (.istore_n 2, 1) := by decide +kernel
theorem dX12_rain_4 : decode cX12_rain 4 = .ok (.iload_n 2, 1) := by decide +kernel
theorem dX12_rain_5 : decode cX12_rain 5 = .ok (.aload_n 0, 1) := by decide +kernel
theorem dX12_rain_6 : decode cX12_rain 6 = .ok (.getfield 7, 3) := by decide +kernel
theorem dX12_rain_9 : decode cX12_rain 9 = .ok (.bipush 26, 2) := by decide +kernel
theorem dX12_rain_11 : decode cX12_rain 11 = .ok (.iaload, 1) := by decide +kernel
theorem dX12_rain_12 : decode cX12_rain 12 = .ok (.if_icmp .ge 67, 3) := by decide +kernel
theorem dX12_rain_15 : decode cX12_rain 15 = .ok (.iload_n 1, 1) := by decide +kernel
theorem dX12_rain_16 : decode cX12_rain 16 = .ok (.aload_n 0, 1) := by decide +kernel
theorem dX12_rain_17 : decode cX12_rain 17 = .ok (.getfield 7, 3) := by decide +kernel
theorem dX12_rain_20 : decode cX12_rain 20 = .ok (.iconst 0, 1) := by decide +kernel
theorem dX12_rain_21 : decode cX12_rain 21 = .ok (.iaload, 1) := by decide +kernel
theorem dX12_rain_22 : decode cX12_rain 22 = .ok (.aload_n 0, 1) := by decide +kernel
theorem dX12_rain_23 : decode cX12_rain 23 = .ok (.getfield 7, 3) := by decide +kernel
theorem dX12_rain_26 : decode cX12_rain 26 = .ok (.bipush 27, 2) := by decide +kernel
theorem dX12_rain_28 : decode cX12_rain 28 = .ok (.iload_n 2, 1) := by decide +kernel
theorem dX12_rain_29 : decode cX12_rain 29 = .ok (.iadd, 1) := by decide +kernel
theorem dX12_rain_30 : decode cX12_rain 30 = .ok (.iaload, 1) := by decide +kernel
theorem dX12_rain_31 : decode cX12_rain 31 = .ok (.aload_n 0, 1) := by decide +kernel
theorem dX12_rain_32 : decode cX12_rain 32 = .ok (.getfield 7, 3) := by decide +kernel
theorem dX12_rain_35 : decode cX12_rain 35 = .ok (.bipush 27, 2) := by decide +kernel
theorem dX12_rain_37 : decode cX12_rain 37 = .ok (.iload_n 2, 1) := by decide +kernel
theorem dX12_rain_38 : decode cX12_rain 38 = .ok (.iadd, 1) := by decide +kernel
theorem dX12_rain_39 : decode cX12_rain 39 = .ok (.iaload, 1) := by decide +kernel
theorem dX12_rain_40 : decode cX12_rain 40 = .ok (.aload_n 0, 1) := by decide +kernel
theorem dX12_rain_41 : decode cX12_rain 41 = .ok (.getfield 7, 3) := by decide +kernel
theorem dX12_rain_44 : decode cX12_rain 44 = .ok (.bipush 39, 2) := by decide +kernel
theorem dX12_rain_46 : decode cX12_rain 46 = .ok (.iload_n 2, 1) := by decide +kernel
theorem dX12_rain_47 : decode cX12_rain 47 = .ok (.iadd, 1) := by decide +kernel
theorem dX12_rain_48 : decode cX12_rain 48 = .ok (.iaload, 1) := by decide +kernel
theorem dX12_rain_49 : decode cX12_rain 49 = .ok (.iadd, 1) := by decide +kernel
theorem dX12_rain_50 : decode cX12_rain 50 = .ok (.iconst 1, 1) := by decide +kernel
theorem dX12_rain_51 : decode cX12_rain 51 = .ok (.isub, 1) := by decide +kernel
theorem dX12_rain_52 : decode cX12_rain 52 = .ok (.invokestatic 33, 3) := by decide +kernel
theorem dX12_rain_55 : decode cX12_rain 55 = .ok (.ifCond .eq 15, 3) := by decide +kernel
theorem dX12_rain_58 : decode cX12_rain 58 = .ok (.aload_n 0, 1) := by decide +kernel
theorem dX12_rain_59 : decode cX12_rain 59 = .ok (.getfield 7, 3) := by decide +kernel
theorem dX12_rain_62 : decode cX12_rain 62 = .ok (.bipush 51, 2) := by decide +kernel
theorem dX12_rain_64 : decode cX12_rain 64 = .ok (.iload_n 2, 1) := by decide +kernel
theorem dX12_rain_65 : decode cX12_rain 65 = .ok (.iadd, 1) := by decide +kernel
theorem dX12_rain_66 : decode cX12_rain 66 = .ok (.iaload, 1) := by decide +kernel
theorem dX12_rain_67 : decode cX12_rain 67 = .ok (.goto 4, 3) := by decide +kernel
theorem dX12_rain_70 : decode cX12_rain 70 = .ok (.iconst 0, 1) := by decide +kernel
theorem dX12_rain_71 : decode cX12_rain 71 = .ok (.iadd, 1) := by decide +kernel
theorem dX12_rain_72 : decode cX12_rain 72 = .ok (.istore_n 1, 1) := by decide +kernel
theorem dX12_rain_73 : decode cX12_rain 73 = .ok (.iinc 2 1, 3) := by decide +kernel
theorem dX12_rain_76 : decode cX12_rain 76 = .ok (.goto (-72), 3) := by decide +kernel
theorem dX12_rain_79 : decode cX12_rain 79 = .ok (.iload_n 1, 1) := by decide +kernel
theorem dX12_rain_80 : decode cX12_rain 80 = .ok (.ireturn, 1) := by decide +kernel
theorem dX12_place_0 : decode cX12_place 0 = .ok (.aload_n 0, 1) := by decide +kernel
theorem dX12_place_1 : decode cX12_place 1 = .ok (.getfield 7, 3) := by decide +kernel
theorem dX12_place_4 : decode cX12_place 4 = .ok (.iconst 5, 1) := by decide +kernel
theorem dX12_place_5 : decode cX12_place 5 = .ok (.iaload, 1) := by decide +kernel
theorem dX12_place_6 : decode cX12_place 6 = .ok (.i2l, 1) := by decide +kernel
theorem dX12_place_7 : decode cX12_place 7 = .ok (.lstore_n 1, 1) := by decide +kernel
theorem dX12_place_8 : decode cX12_place 8 = .ok (.lconst 1, 1) := by decide +kernel
theorem dX12_place_9 : decode cX12_place 9 = .ok (.lstore_n 3, 1) := by decide +kernel
theorem dX12_place_10 : decode cX12_place 10 = .ok (.iconst 0, 1) := by decide +kernel
theorem dX12_place_11 : decode cX12_place 11 = .ok (.istore 5, 2) := by decide +kernel
theorem dX12_place_13 : decode cX12_place 13 = .ok (.iload 5, 2) := by decide +kernel
theorem dX12_place_15 : decode cX12_place 15 = .ok (.aload_n 0, 1) := by decide +kernel
theorem dX12_place_16 : decode cX12_place 16 = .ok (.getfield 7, 3) := by decide +kernel
theorem dX12_place_19 : decode cX12_place 19 = .ok (.bipush 19, 2) := by decide +kernel
theorem dX12_place_21 : decode cX12_place 21 = .ok (.iaload, 1) := by decide +kernel
theorem dX12_place_22 : decode cX12_place 22 = .ok (.if_icmp .ge 43, 3) := by decide +kernel
theorem dX12_place_25 : decode cX12_place 25 = .ok (.lload_n 1, 1) := by decide +kernel
theorem dX12_place_26 : decode cX12_place 26 = .ok (.aload_n 0, 1) := by decide +kernel
theorem dX12_place_27 : decode cX12_place 27 = .ok (.getfield 7, 3) := by decide +kernel
theorem dX12_place_30 : decode cX12_place 30 = .ok (.bipush 20, 2) := by decide +kernel
theorem dX12_place_32 : decode cX12_place 32 = .ok (.iconst 2, 1) := by decide +kernel
theorem dX12_place_33 : decode cX12_place 33 = .ok (.iload 5, 2) := by decide +kernel
theorem dX12_place_35 : decode cX12_place 35 = .ok (.imul, 1) := by decide +kernel
theorem dX12_place_36 : decode cX12_place 36 = .ok (.iadd, 1) := by decide +kernel
theorem dX12_place_37 : decode cX12_place 37 = .ok (.iaload, 1) := by decide +kernel
theorem dX12_place_38 : decode cX12_place 38 = .ok (.i2l, 1) := by decide +kernel
theorem dX12_place_39 : decode cX12_place 39 = .ok (.lmul, 1) := by decide +kernel
theorem dX12_place_40 : decode cX12_place 40 = .ok (.lstore_n 1, 1) := by decide +kernel
theorem dX12_place_41 : decode cX12_place 41 = .ok (.lload_n 3, 1) := by decide +kernel
theorem dX12_place_42 : decode cX12_place 42 = .ok (.aload_n 0, 1) := by decide +kernel
theorem dX12_place_43 : decode cX12_place 43 = .ok (.getfield 7, 3) := by decide +kernel
theorem dX12_place_46 : decode cX12_place 46 = .ok (.bipush 20, 2) := by decide +kernel
theorem dX12_place_48 : decode cX12_place 48 = .ok (.iconst 2, 1) := by decide +kernel
theorem dX12_place_49 : decode cX12_place 49 = .ok (.iload 5, 2) := by decide +kernel
theorem dX12_place_51 : decode cX12_place 51 = .ok (.imul, 1) := by decide +kernel
theorem dX12_place_52 : decode cX12_place 52 = .ok (.iadd, 1) := by decide +kernel
theorem dX12_place_53 : decode cX12_place 53 = .ok (.iconst 1, 1) := by decide +kernel
theorem dX12_place_54 : decode cX12_place 54 = .ok (.iadd, 1) := by decide +kernel
theorem dX12_place_55 : decode cX12_place 55 = .ok (.iaload, 1) := by decide +kernel
theorem dX12_place_56 : decode cX12_place 56 = .ok (.i2l, 1) := by decide +kernel
theorem dX12_place_57 : decode cX12_place 57 = .ok (.lmul, 1) := by decide +kernel
theorem dX12_place_58 : decode cX12_place 58 = .ok (.lstore_n 3, 1) := by decide +kernel
theorem dX12_place_59 : decode cX12_place 59 = .ok (.iinc 5 1, 3) := by decide +kernel
theorem dX12_place_62 : decode cX12_place 62 = .ok (.goto (-49), 3) := by decide +kernel
theorem dX12_place_65 : decode cX12_place 65 = .ok (.lload_n 1, 1) := by decide +kernel
theorem dX12_place_66 : decode cX12_place 66 = .ok (.lload_n 3, 1) := by decide +kernel
theorem dX12_place_67 : decode cX12_place 67 = .ok (.ldiv, 1) := by decide +kernel
theorem dX12_place_68 : decode cX12_place 68 = .ok (.aload_n 0, 1) := by decide +kernel
theorem dX12_place_69 : decode cX12_place 69 = .ok (.getfield 7, 3) := by decide +kernel
theorem dX12_place_72 : decode cX12_place 72 = .ok (.bipush 16, 2) := by decide +kernel
theorem dX12_place_74 : decode cX12_place 74 = .ok (.iaload, 1) := by decide +kernel
theorem dX12_place_75 : decode cX12_place 75 = .ok (.i2l, 1) := by decide +kernel
theorem dX12_place_76 : decode cX12_place 76 = .ok (.lrem, 1) := by decide +kernel
theorem dX12_place_77 : decode cX12_place 77 = .ok (.l2i, 1) := by decide +kernel
theorem dX12_place_78 : decode cX12_place 78 = .ok (.ireturn, 1) := by decide +kernel
theorem dX12_dropsShower_0 : decode cX12_dropsShower 0 = .ok (.aload_n 0, 1) := by decide +kernel
theorem dX12_dropsShower_1 : decode cX12_dropsShower 1 = .ok (.getfield 7, 3) := by decide +kernel
theorem dX12_dropsShower_4 : decode cX12_dropsShower 4 = .ok (.bipush 26, 2) := by decide +kernel
theorem dX12_dropsShower_6 : decode cX12_dropsShower 6 = .ok (.dup2, 1) := by decide +kernel
theorem dX12_dropsShower_7 : decode cX12_dropsShower 7 = .ok (.iaload, 1) := by decide +kernel
theorem dX12_dropsShower_8 : decode cX12_dropsShower 8 = .ok (.iconst 1, 1) := by decide +kernel
theorem dX12_dropsShower_9 : decode cX12_dropsShower 9 = .ok (.isub, 1) := by decide +kernel
theorem dX12_dropsShower_10 : decode cX12_dropsShower 10 = .ok (.iastore, 1) := by decide +kernel
theorem dX12_dropsShower_11 : decode cX12_dropsShower 11 = .ok (.iload_n 1, 1) := by decide +kernel
theorem dX12_dropsShower_12 : decode cX12_dropsShower 12 = .ok (.istore_n 2, 1) := by decide +kernel
theorem dX12_dropsShower_13 : decode cX12_dropsShower 13 = .ok (.iload_n 2, 1) := by decide +kernel
theorem dX12_dropsShower_14 : decode cX12_dropsShower 14 = .ok (.aload_n 0, 1) := by decide +kernel
theorem dX12_dropsShower_15 : decode cX12_dropsShower 15 = .ok (.getfield 7, 3) := by decide +kernel
theorem dX12_dropsShower_18 : decode cX12_dropsShower 18 = .ok (.bipush 26, 2) := by decide +kernel
theorem dX12_dropsShower_20 : decode cX12_dropsShower 20 = .ok (.iaload, 1) := by decide +kernel
theorem dX12_dropsShower_21 : decode cX12_dropsShower 21 = .ok (.if_icmp .ge 42, 3) := by decide +kernel
theorem dX12_dropsShower_24 : decode cX12_dropsShower 24 = .ok (.bipush 27, 2) := by decide +kernel
theorem dX12_dropsShower_26 : decode cX12_dropsShower 26 = .ok (.istore_n 3, 1) := by decide +kernel
theorem dX12_dropsShower_27 : decode cX12_dropsShower 27 = .ok (.iload_n 3, 1) := by decide +kernel
theorem dX12_dropsShower_28 : decode cX12_dropsShower 28 = .ok (.bipush 51, 2) := by decide +kernel
theorem dX12_dropsShower_30 : decode cX12_dropsShower 30 = .ok (.if_icmp .gt 27, 3) := by decide +kernel
theorem dX12_dropsShower_33 : decode cX12_dropsShower 33 = .ok (.aload_n 0, 1) := by decide +kernel
theorem dX12_dropsShower_34 : decode cX12_dropsShower 34 = .ok (.getfield 7, 3) := by decide +kernel
theorem dX12_dropsShower_37 : decode cX12_dropsShower 37 = .ok (.iload_n 3, 1) := by decide +kernel
theorem dX12_dropsShower_38 : decode cX12_dropsShower 38 = .ok (.iload_n 2, 1) := by decide +kernel
theorem dX12_dropsShower_39 : decode cX12_dropsShower 39 = .ok (.iadd, 1) := by decide +kernel
theorem dX12_dropsShower_40 : decode cX12_dropsShower 40 = .ok (.aload_n 0, 1) := by decide +kernel
theorem dX12_dropsShower_41 : decode cX12_dropsShower 41 = .ok (.getfield 7, 3) := by decide +kernel
theorem dX12_dropsShower_44 : decode cX12_dropsShower 44 = .ok (.iload_n 3, 1) := by decide +kernel
theorem dX12_dropsShower_45 : decode cX12_dropsShower 45 = .ok (.iload_n 2, 1) := by decide +kernel
theorem dX12_dropsShower_46 : decode cX12_dropsShower 46 = .ok (.iadd, 1) := by decide +kernel
theorem dX12_dropsShower_47 : decode cX12_dropsShower 47 = .ok (.iconst 1, 1) := by decide +kernel
theorem dX12_dropsShower_48 : decode cX12_dropsShower 48 = .ok (.iadd, 1) := by decide +kernel
theorem dX12_dropsShower_49 : decode cX12_dropsShower 49 = .ok (.iaload, 1) := by decide +kernel
theorem dX12_dropsShower_50 : decode cX12_dropsShower 50 = .ok (.iastore, 1) := by decide +kernel
theorem dX12_dropsShower_51 : decode cX12_dropsShower 51 = .ok (.iinc 3 12, 3) := by decide +kernel
theorem dX12_dropsShower_54 : decode cX12_dropsShower 54 = .ok (.goto (-27), 3) := by decide +kernel
theorem dX12_dropsShower_57 : decode cX12_dropsShower 57 = .ok (.iinc 2 1, 3) := by decide +kernel
theorem dX12_dropsShower_60 : decode cX12_dropsShower 60 = .ok (.goto (-47), 3) := by decide +kernel
theorem dX12_dropsShower_63 : decode cX12_dropsShower 63 = .ok (.return_, 1) := by decide +kernel
theorem dX12_marks_0 : decode cX12_marks 0 = .ok (.aload_n 0, 1) := by decide +kernel
theorem dX12_marks_1 : decode cX12_marks 1 = .ok (.getfield 7, 3) := by decide +kernel
theorem dX12_marks_4 : decode cX12_marks 4 = .ok (.bipush 63, 2) := by decide +kernel
theorem dX12_marks_6 : decode cX12_marks 6 = .ok (.iaload, 1) := by decide +kernel
theorem dX12_marks_7 : decode cX12_marks 7 = .ok (.bipush 60, 2) := by decide +kernel
theorem dX12_marks_9 : decode cX12_marks 9 = .ok (.if_icmp .ne 62, 3) := by decide +kernel
theorem dX12_marks_12 : decode cX12_marks 12 = .ok (.iconst 0, 1) := by decide +kernel
theorem dX12_marks_13 : decode cX12_marks 13 = .ok (.istore_n 2, 1) := by decide +kernel
theorem dX12_marks_14 : decode cX12_marks 14 = .ok (.iload_n 2, 1) := by decide +kernel
theorem dX12_marks_15 : decode cX12_marks 15 = .ok (.bipush 59, 2) := by decide +kernel
theorem dX12_marks_17 : decode cX12_marks 17 = .ok (.if_icmp .ge 43, 3) := by decide +kernel
theorem dX12_marks_20 : decode cX12_marks 20 = .ok (.bipush 64, 2) := by decide +kernel
theorem dX12_marks_22 : decode cX12_marks 22 = .ok (.istore_n 3, 1) := by decide +kernel
theorem dX12_marks_23 : decode cX12_marks 23 = .ok (.iload_n 3, 1) := by decide +kernel
theorem dX12_marks_24 : decode cX12_marks 24 = .ok (.sipush 184, 3) := by decide +kernel
theorem dX12_marks_27 : decode cX12_marks 27 = .ok (.if_icmp .gt 27, 3) := by decide +kernel
theorem dX12_marks_30 : decode cX12_marks 30 = .ok (.aload_n 0, 1) := by decide +kernel
theorem dX12_marks_31 : decode cX12_marks 31 = .ok (.getfield 7, 3) := by decide +kernel
theorem dX12_marks_34 : decode cX12_marks 34 = .ok (.iload_n 3, 1) := by decide +kernel
theorem dX12_marks_35 : decode cX12_marks 35 = .ok (.iload_n 2, 1) := by decide +kernel
theorem dX12_marks_36 : decode cX12_marks 36 = .ok (.iadd, 1) := by decide +kernel
theorem dX12_marks_37 : decode cX12_marks 37 = .ok (.aload_n 0, 1) := by decide +kernel
theorem dX12_marks_38 : decode cX12_marks 38 = .ok (.getfield 7, 3) := by decide +kernel
theorem dX12_marks_41 : decode cX12_marks 41 = .ok (.iload_n 3, 1) := by decide +kernel
theorem dX12_marks_42 : decode cX12_marks 42 = .ok (.iload_n 2, 1) := by decide +kernel
theorem dX12_marks_43 : decode cX12_marks 43 = .ok (.iadd, 1) := by decide +kernel
theorem dX12_marks_44 : decode cX12_marks 44 = .ok (.iconst 1, 1) := by decide +kernel
theorem dX12_marks_45 : decode cX12_marks 45 = .ok (.iadd, 1) := by decide +kernel
theorem dX12_marks_46 : decode cX12_marks 46 = .ok (.iaload, 1) := by decide +kernel
theorem dX12_marks_47 : decode cX12_marks 47 = .ok (.iastore, 1) := by decide +kernel
theorem dX12_marks_48 : decode cX12_marks 48 = .ok (.iinc 3 60, 3) := by decide +kernel
theorem dX12_marks_51 : decode cX12_marks 51 = .ok (.goto (-28), 3) := by decide +kernel
theorem dX12_marks_54 : decode cX12_marks 54 = .ok (.iinc 2 1, 3) := by decide +kernel
theorem dX12_marks_57 : decode cX12_marks 57 = .ok (.goto (-43), 3) := by decide +kernel
theorem dX12_marks_60 : decode cX12_marks 60 = .ok (.aload_n 0, 1) := by decide +kernel
theorem dX12_marks_61 : decode cX12_marks 61 = .ok (.getfield 7, 3) := by decide +kernel
theorem dX12_marks_64 : decode cX12_marks 64 = .ok (.bipush 63, 2) := by decide +kernel
theorem dX12_marks_66 : decode cX12_marks 66 = .ok (.dup2, 1) := by decide +kernel
theorem dX12_marks_67 : decode cX12_marks 67 = .ok (.iaload, 1) := by decide +kernel
theorem dX12_marks_68 : decode cX12_marks 68 = .ok (.iconst 1, 1) := by decide +kernel
theorem dX12_marks_69 : decode cX12_marks 69 = .ok (.isub, 1) := by decide +kernel
theorem dX12_marks_70 : decode cX12_marks 70 = .ok (.iastore, 1) := by decide +kernel
theorem dX12_marks_71 : decode cX12_marks 71 = .ok (.aload_n 0, 1) := by decide +kernel
theorem dX12_marks_72 : decode cX12_marks 72 = .ok (.getfield 7, 3) := by decide +kernel
theorem dX12_marks_75 : decode cX12_marks 75 = .ok (.bipush 64, 2) := by decide +kernel
theorem dX12_marks_77 : decode cX12_marks 77 = .ok (.aload_n 0, 1) := by decide +kernel
theorem dX12_marks_78 : decode cX12_marks 78 = .ok (.getfield 7, 3) := by decide +kernel
theorem dX12_marks_81 : decode cX12_marks 81 = .ok (.bipush 63, 2) := by decide +kernel
theorem dX12_marks_83 : decode cX12_marks 83 = .ok (.iaload, 1) := by decide +kernel
theorem dX12_marks_84 : decode cX12_marks 84 = .ok (.iadd, 1) := by decide +kernel
theorem dX12_marks_85 : decode cX12_marks 85 = .ok (.aload_n 0, 1) := by decide +kernel
theorem dX12_marks_86 : decode cX12_marks 86 = .ok (.getfield 7, 3) := by decide +kernel
theorem dX12_marks_89 : decode cX12_marks 89 = .ok (.iconst 0, 1) := by decide +kernel
theorem dX12_marks_90 : decode cX12_marks 90 = .ok (.iaload, 1) := by decide +kernel
theorem dX12_marks_91 : decode cX12_marks 91 = .ok (.iastore, 1) := by decide +kernel
theorem dX12_marks_92 : decode cX12_marks 92 = .ok (.aload_n 0, 1) := by decide +kernel
theorem dX12_marks_93 : decode cX12_marks 93 = .ok (.getfield 7, 3) := by decide +kernel
theorem dX12_marks_96 : decode cX12_marks 96 = .ok (.bipush 124, 2) := by decide +kernel
theorem dX12_marks_98 : decode cX12_marks 98 = .ok (.aload_n 0, 1) := by decide +kernel
theorem dX12_marks_99 : decode cX12_marks 99 = .ok (.getfield 7, 3) := by decide +kernel
theorem dX12_marks_102 : decode cX12_marks 102 = .ok (.bipush 63, 2) := by decide +kernel
theorem dX12_marks_104 : decode cX12_marks 104 = .ok (.iaload, 1) := by decide +kernel
theorem dX12_marks_105 : decode cX12_marks 105 = .ok (.iadd, 1) := by decide +kernel
theorem dX12_marks_106 : decode cX12_marks 106 = .ok (.aload_n 0, 1) := by decide +kernel
theorem dX12_marks_107 : decode cX12_marks 107 = .ok (.invokevirtual 37, 3) := by decide +kernel
theorem dX12_marks_110 : decode cX12_marks 110 = .ok (.iastore, 1) := by decide +kernel
theorem dX12_marks_111 : decode cX12_marks 111 = .ok (.aload_n 0, 1) := by decide +kernel
theorem dX12_marks_112 : decode cX12_marks 112 = .ok (.getfield 7, 3) := by decide +kernel
theorem dX12_marks_115 : decode cX12_marks 115 = .ok (.sipush 184, 3) := by decide +kernel
theorem dX12_marks_118 : decode cX12_marks 118 = .ok (.aload_n 0, 1) := by decide +kernel
theorem dX12_marks_119 : decode cX12_marks 119 = .ok (.getfield 7, 3) := by decide +kernel
theorem dX12_marks_122 : decode cX12_marks 122 = .ok (.bipush 63, 2) := by decide +kernel
theorem dX12_marks_124 : decode cX12_marks 124 = .ok (.iaload, 1) := by decide +kernel
theorem dX12_marks_125 : decode cX12_marks 125 = .ok (.iadd, 1) := by decide +kernel
theorem dX12_marks_126 : decode cX12_marks 126 = .ok (.iload_n 1, 1) := by decide +kernel
theorem dX12_marks_127 : decode cX12_marks 127 = .ok (.iastore, 1) := by decide +kernel
theorem dX12_marks_128 : decode cX12_marks 128 = .ok (.aload_n 0, 1) := by decide +kernel
theorem dX12_marks_129 : decode cX12_marks 129 = .ok (.getfield 7, 3) := by decide +kernel
theorem dX12_marks_132 : decode cX12_marks 132 = .ok (.bipush 63, 2) := by decide +kernel
theorem dX12_marks_134 : decode cX12_marks 134 = .ok (.dup2, 1) := by decide +kernel
theorem dX12_marks_135 : decode cX12_marks 135 = .ok (.iaload, 1) := by decide +kernel
theorem dX12_marks_136 : decode cX12_marks 136 = .ok (.iconst 1, 1) := by decide +kernel
theorem dX12_marks_137 : decode cX12_marks 137 = .ok (.iadd, 1) := by decide +kernel
theorem dX12_marks_138 : decode cX12_marks 138 = .ok (.iastore, 1) := by decide +kernel
theorem dX12_marks_139 : decode cX12_marks 139 = .ok (.return_, 1) := by decide +kernel
theorem dX12_dries_0 : decode cX12_dries 0 = .ok (.aload_n 0, 1) := by decide +kernel
theorem dX12_dries_1 : decode cX12_dries 1 = .ok (.getfield 7, 3) := by decide +kernel
theorem dX12_dries_4 : decode cX12_dries 4 = .ok (.iload_n 1, 1) := by decide +kernel
theorem dX12_dries_5 : decode cX12_dries 5 = .ok (.iaload, 1) := by decide +kernel
theorem dX12_dries_6 : decode cX12_dries 6 = .ok (.iload_n 2, 1) := by decide +kernel
theorem dX12_dries_7 : decode cX12_dries 7 = .ok (.invokestatic 41, 3) := by decide +kernel
theorem dX12_dries_10 : decode cX12_dries 10 = .ok (.istore_n 3, 1) := by decide +kernel
theorem dX12_dries_11 : decode cX12_dries 11 = .ok (.aload_n 0, 1) := by decide +kernel
theorem dX12_dries_12 : decode cX12_dries 12 = .ok (.getfield 7, 3) := by decide +kernel
theorem dX12_dries_15 : decode cX12_dries 15 = .ok (.iload_n 1, 1) := by decide +kernel
theorem dX12_dries_16 : decode cX12_dries 16 = .ok (.dup2, 1) := by decide +kernel
theorem dX12_dries_17 : decode cX12_dries 17 = .ok (.iaload, 1) := by decide +kernel
theorem dX12_dries_18 : decode cX12_dries 18 = .ok (.iload_n 3, 1) := by decide +kernel
theorem dX12_dries_19 : decode cX12_dries 19 = .ok (.isub, 1) := by decide +kernel
theorem dX12_dries_20 : decode cX12_dries 20 = .ok (.iastore, 1) := by decide +kernel
theorem dX12_dries_21 : decode cX12_dries 21 = .ok (.aload_n 0, 1) := by decide +kernel
theorem dX12_dries_22 : decode cX12_dries 22 = .ok (.getfield 7, 3) := by decide +kernel
theorem dX12_dries_25 : decode cX12_dries 25 = .ok (.bipush 10, 2) := by decide +kernel
theorem dX12_dries_27 : decode cX12_dries 27 = .ok (.dup2, 1) := by decide +kernel
theorem dX12_dries_28 : decode cX12_dries 28 = .ok (.iaload, 1) := by decide +kernel
theorem dX12_dries_29 : decode cX12_dries 29 = .ok (.iload_n 3, 1) := by decide +kernel
theorem dX12_dries_30 : decode cX12_dries 30 = .ok (.iadd, 1) := by decide +kernel
theorem dX12_dries_31 : decode cX12_dries 31 = .ok (.iastore, 1) := by decide +kernel
theorem dX12_dries_32 : decode cX12_dries 32 = .ok (.return_, 1) := by decide +kernel
theorem dX12_ticks_0 : decode cX12_ticks 0 = .ok (.aload_n 0, 1) := by decide +kernel
theorem dX12_ticks_1 : decode cX12_ticks 1 = .ok (.getfield 7, 3) := by decide +kernel
theorem dX12_ticks_4 : decode cX12_ticks 4 = .ok (.iconst 3, 1) := by decide +kernel
theorem dX12_ticks_5 : decode cX12_ticks 5 = .ok (.iaload, 1) := by decide +kernel
theorem dX12_ticks_6 : decode cX12_ticks 6 = .ok (.ifCond .le 7, 3) := by decide +kernel
theorem dX12_ticks_9 : decode cX12_ticks 9 = .ok (.iconst 1, 1) := by decide +kernel
theorem dX12_ticks_10 : decode cX12_ticks 10 = .ok (.goto 4, 3) := by decide +kernel
theorem dX12_ticks_13 : decode cX12_ticks 13 = .ok (.iconst 0, 1) := by decide +kernel
theorem dX12_ticks_14 : decode cX12_ticks 14 = .ok (.istore_n 1, 1) := by decide +kernel
theorem dX12_ticks_15 : decode cX12_ticks 15 = .ok (.aload_n 0, 1) := by decide +kernel
theorem dX12_ticks_16 : decode cX12_ticks 16 = .ok (.invokevirtual 45, 3) := by decide +kernel
theorem dX12_ticks_19 : decode cX12_ticks 19 = .ok (.istore_n 2, 1) := by decide +kernel
theorem dX12_ticks_20 : decode cX12_ticks 20 = .ok (.aload_n 0, 1) := by decide +kernel
theorem dX12_ticks_21 : decode cX12_ticks 21 = .ok (.getfield 7, 3) := by decide +kernel
theorem dX12_ticks_24 : decode cX12_ticks 24 = .ok (.bipush 13, 2) := by decide +kernel
theorem dX12_ticks_26 : decode cX12_ticks 26 = .ok (.iaload, 1) := by decide +kernel
theorem dX12_ticks_27 : decode cX12_ticks 27 = .ok (.aload_n 0, 1) := by decide +kernel
theorem dX12_ticks_28 : decode cX12_ticks 28 = .ok (.getfield 7, 3) := by decide +kernel
theorem dX12_ticks_31 : decode cX12_ticks 31 = .ok (.iconst 1, 1) := by decide +kernel
theorem dX12_ticks_32 : decode cX12_ticks 32 = .ok (.iaload, 1) := by decide +kernel
theorem dX12_ticks_33 : decode cX12_ticks 33 = .ok (.isub, 1) := by decide +kernel
theorem dX12_ticks_34 : decode cX12_ticks 34 = .ok (.istore_n 3, 1) := by decide +kernel
theorem dX12_ticks_35 : decode cX12_ticks 35 = .ok (.iload_n 3, 1) := by decide +kernel
theorem dX12_ticks_36 : decode cX12_ticks 36 = .ok (.ifCond .le 11, 3) := by decide +kernel
theorem dX12_ticks_39 : decode cX12_ticks 39 = .ok (.iload_n 3, 1) := by decide +kernel
theorem dX12_ticks_40 : decode cX12_ticks 40 = .ok (.iload_n 2, 1) := by decide +kernel
theorem dX12_ticks_41 : decode cX12_ticks 41 = .ok (.invokestatic 41, 3) := by decide +kernel
theorem dX12_ticks_44 : decode cX12_ticks 44 = .ok (.goto 4, 3) := by decide +kernel
theorem dX12_ticks_47 : decode cX12_ticks 47 = .ok (.iconst 0, 1) := by decide +kernel
theorem dX12_ticks_48 : decode cX12_ticks 48 = .ok (.istore 4, 2) := by decide +kernel
theorem dX12_ticks_50 : decode cX12_ticks 50 = .ok (.aload_n 0, 1) := by decide +kernel
theorem dX12_ticks_51 : decode cX12_ticks 51 = .ok (.getfield 7, 3) := by decide +kernel
theorem dX12_ticks_54 : decode cX12_ticks 54 = .ok (.bipush 6, 2) := by decide +kernel
theorem dX12_ticks_56 : decode cX12_ticks 56 = .ok (.dup2, 1) := by decide +kernel
theorem dX12_ticks_57 : decode cX12_ticks 57 = .ok (.iaload, 1) := by decide +kernel
theorem dX12_ticks_58 : decode cX12_ticks 58 = .ok (.iload_n 2, 1) := by decide +kernel
theorem dX12_ticks_59 : decode cX12_ticks 59 = .ok (.iadd, 1) := by decide +kernel
theorem dX12_ticks_60 : decode cX12_ticks 60 = .ok (.iastore, 1) := by decide +kernel
theorem dX12_ticks_61 : decode cX12_ticks 61 = .ok (.aload_n 0, 1) := by decide +kernel
theorem dX12_ticks_62 : decode cX12_ticks 62 = .ok (.getfield 7, 3) := by decide +kernel
theorem dX12_ticks_65 : decode cX12_ticks 65 = .ok (.iconst 1, 1) := by decide +kernel
theorem dX12_ticks_66 : decode cX12_ticks 66 = .ok (.dup2, 1) := by decide +kernel
theorem dX12_ticks_67 : decode cX12_ticks 67 = .ok (.iaload, 1) := by decide +kernel
theorem dX12_ticks_68 : decode cX12_ticks 68 = .ok (.iload 4, 2) := by decide +kernel
theorem dX12_ticks_70 : decode cX12_ticks 70 = .ok (.iadd, 1) := by decide +kernel
theorem dX12_ticks_71 : decode cX12_ticks 71 = .ok (.iastore, 1) := by decide +kernel
theorem dX12_ticks_72 : decode cX12_ticks 72 = .ok (.aload_n 0, 1) := by decide +kernel
theorem dX12_ticks_73 : decode cX12_ticks 73 = .ok (.getfield 7, 3) := by decide +kernel
theorem dX12_ticks_76 : decode cX12_ticks 76 = .ok (.iload_n 1, 1) := by decide +kernel
theorem dX12_ticks_77 : decode cX12_ticks 77 = .ok (.ifCond .eq 8, 3) := by decide +kernel
theorem dX12_ticks_80 : decode cX12_ticks 80 = .ok (.bipush 9, 2) := by decide +kernel
theorem dX12_ticks_82 : decode cX12_ticks 82 = .ok (.goto 4, 3) := by decide +kernel
theorem dX12_ticks_85 : decode cX12_ticks 85 = .ok (.iconst 2, 1) := by decide +kernel
theorem dX12_ticks_86 : decode cX12_ticks 86 = .ok (.dup2, 1) := by decide +kernel
theorem dX12_ticks_87 : decode cX12_ticks 87 = .ok (.iaload, 1) := by decide +kernel
theorem dX12_ticks_88 : decode cX12_ticks 88 = .ok (.iload_n 2, 1) := by decide +kernel
theorem dX12_ticks_89 : decode cX12_ticks 89 = .ok (.iload 4, 2) := by decide +kernel
theorem dX12_ticks_91 : decode cX12_ticks 91 = .ok (.isub, 1) := by decide +kernel
theorem dX12_ticks_92 : decode cX12_ticks 92 = .ok (.iadd, 1) := by decide +kernel
theorem dX12_ticks_93 : decode cX12_ticks 93 = .ok (.iastore, 1) := by decide +kernel
theorem dX12_ticks_94 : decode cX12_ticks 94 = .ok (.iload_n 2, 1) := by decide +kernel
theorem dX12_ticks_95 : decode cX12_ticks 95 = .ok (.ifCond .ne 31, 3) := by decide +kernel
theorem dX12_ticks_98 : decode cX12_ticks 98 = .ok (.aload_n 0, 1) := by decide +kernel
theorem dX12_ticks_99 : decode cX12_ticks 99 = .ok (.iconst 1, 1) := by decide +kernel
theorem dX12_ticks_100 : decode cX12_ticks 100 = .ok (.aload_n 0, 1) := by decide +kernel
theorem dX12_ticks_101 : decode cX12_ticks 101 = .ok (.getfield 7, 3) := by decide +kernel
theorem dX12_ticks_104 : decode cX12_ticks 104 = .ok (.bipush 14, 2) := by decide +kernel
theorem dX12_ticks_106 : decode cX12_ticks 106 = .ok (.iaload, 1) := by decide +kernel
theorem dX12_ticks_107 : decode cX12_ticks 107 = .ok (.invokevirtual 48, 3) := by decide +kernel
theorem dX12_ticks_110 : decode cX12_ticks 110 = .ok (.iload_n 1, 1) := by decide +kernel
theorem dX12_ticks_111 : decode cX12_ticks 111 = .ok (.ifCond .ne 15, 3) := by decide +kernel
theorem dX12_ticks_114 : decode cX12_ticks 114 = .ok (.aload_n 0, 1) := by decide +kernel
theorem dX12_ticks_115 : decode cX12_ticks 115 = .ok (.iconst 2, 1) := by decide +kernel
theorem dX12_ticks_116 : decode cX12_ticks 116 = .ok (.aload_n 0, 1) := by decide +kernel
theorem dX12_ticks_117 : decode cX12_ticks 117 = .ok (.getfield 7, 3) := by decide +kernel
theorem dX12_ticks_120 : decode cX12_ticks 120 = .ok (.bipush 15, 2) := by decide +kernel
theorem dX12_ticks_122 : decode cX12_ticks 122 = .ok (.iaload, 1) := by decide +kernel
theorem dX12_ticks_123 : decode cX12_ticks 123 = .ok (.invokevirtual 48, 3) := by decide +kernel
theorem dX12_ticks_126 : decode cX12_ticks 126 = .ok (.iload_n 1, 1) := by decide +kernel
theorem dX12_ticks_127 : decode cX12_ticks 127 = .ok (.ifCond .ne 23, 3) := by decide +kernel
theorem dX12_ticks_130 : decode cX12_ticks 130 = .ok (.aload_n 0, 1) := by decide +kernel
theorem dX12_ticks_131 : decode cX12_ticks 131 = .ok (.getfield 7, 3) := by decide +kernel
theorem dX12_ticks_134 : decode cX12_ticks 134 = .ok (.iconst 2, 1) := by decide +kernel
theorem dX12_ticks_135 : decode cX12_ticks 135 = .ok (.iaload, 1) := by decide +kernel
theorem dX12_ticks_136 : decode cX12_ticks 136 = .ok (.aload_n 0, 1) := by decide +kernel
theorem dX12_ticks_137 : decode cX12_ticks 137 = .ok (.getfield 7, 3) := by decide +kernel
theorem dX12_ticks_140 : decode cX12_ticks 140 = .ok (.bipush 11, 2) := by decide +kernel
theorem dX12_ticks_142 : decode cX12_ticks 142 = .ok (.iaload, 1) := by decide +kernel
theorem dX12_ticks_143 : decode cX12_ticks 143 = .ok (.if_icmp .lt 7, 3) := by decide +kernel
theorem dX12_ticks_146 : decode cX12_ticks 146 = .ok (.iconst 1, 1) := by decide +kernel
theorem dX12_ticks_147 : decode cX12_ticks 147 = .ok (.goto 4, 3) := by decide +kernel
theorem dX12_ticks_150 : decode cX12_ticks 150 = .ok (.iconst 0, 1) := by decide +kernel
theorem dX12_ticks_151 : decode cX12_ticks 151 = .ok (.istore 5, 2) := by decide +kernel
theorem dX12_ticks_153 : decode cX12_ticks 153 = .ok (.iload_n 1, 1) := by decide +kernel
theorem dX12_ticks_154 : decode cX12_ticks 154 = .ok (.ifCond .eq 16, 3) := by decide +kernel
theorem dX12_ticks_157 : decode cX12_ticks 157 = .ok (.aload_n 0, 1) := by decide +kernel
theorem dX12_ticks_158 : decode cX12_ticks 158 = .ok (.getfield 7, 3) := by decide +kernel
theorem dX12_ticks_161 : decode cX12_ticks 161 = .ok (.iconst 3, 1) := by decide +kernel
theorem dX12_ticks_162 : decode cX12_ticks 162 = .ok (.dup2, 1) := by decide +kernel
theorem dX12_ticks_163 : decode cX12_ticks 163 = .ok (.iaload, 1) := by decide +kernel
theorem dX12_ticks_164 : decode cX12_ticks 164 = .ok (.iconst 1, 1) := by decide +kernel
theorem dX12_ticks_165 : decode cX12_ticks 165 = .ok (.isub, 1) := by decide +kernel
theorem dX12_ticks_166 : decode cX12_ticks 166 = .ok (.iastore, 1) := by decide +kernel
theorem dX12_ticks_167 : decode cX12_ticks 167 = .ok (.goto 79, 3) := by decide +kernel
theorem dX12_ticks_170 : decode cX12_ticks 170 = .ok (.iload 5, 2) := by decide +kernel
theorem dX12_ticks_172 : decode cX12_ticks 172 = .ok (.ifCond .eq 74, 3) := by decide +kernel
theorem dX12_ticks_175 : decode cX12_ticks 175 = .ok (.aload_n 0, 1) := by decide +kernel
theorem dX12_ticks_176 : decode cX12_ticks 176 = .ok (.getfield 7, 3) := by decide +kernel
theorem dX12_ticks_179 : decode cX12_ticks 179 = .ok (.iconst 2, 1) := by decide +kernel
theorem dX12_ticks_180 : decode cX12_ticks 180 = .ok (.iaload, 1) := by decide +kernel
theorem dX12_ticks_181 : decode cX12_ticks 181 = .ok (.aload_n 0, 1) := by decide +kernel
theorem dX12_ticks_182 : decode cX12_ticks 182 = .ok (.getfield 7, 3) := by decide +kernel
theorem dX12_ticks_185 : decode cX12_ticks 185 = .ok (.bipush 11, 2) := by decide +kernel
theorem dX12_ticks_187 : decode cX12_ticks 187 = .ok (.iaload, 1) := by decide +kernel
theorem dX12_ticks_188 : decode cX12_ticks 188 = .ok (.isub, 1) := by decide +kernel
theorem dX12_ticks_189 : decode cX12_ticks 189 = .ok (.istore 6, 2) := by decide +kernel
theorem dX12_ticks_191 : decode cX12_ticks 191 = .ok (.aload_n 0, 1) := by decide +kernel
theorem dX12_ticks_192 : decode cX12_ticks 192 = .ok (.getfield 7, 3) := by decide +kernel
theorem dX12_ticks_195 : decode cX12_ticks 195 = .ok (.bipush 7, 2) := by decide +kernel
theorem dX12_ticks_197 : decode cX12_ticks 197 = .ok (.dup2, 1) := by decide +kernel
theorem dX12_ticks_198 : decode cX12_ticks 198 = .ok (.iaload, 1) := by decide +kernel
theorem dX12_ticks_199 : decode cX12_ticks 199 = .ok (.aload_n 0, 1) := by decide +kernel
theorem dX12_ticks_200 : decode cX12_ticks 200 = .ok (.getfield 7, 3) := by decide +kernel
theorem dX12_ticks_203 : decode cX12_ticks 203 = .ok (.bipush 11, 2) := by decide +kernel
theorem dX12_ticks_205 : decode cX12_ticks 205 = .ok (.iaload, 1) := by decide +kernel
theorem dX12_ticks_206 : decode cX12_ticks 206 = .ok (.iadd, 1) := by decide +kernel
theorem dX12_ticks_207 : decode cX12_ticks 207 = .ok (.iastore, 1) := by decide +kernel
theorem dX12_ticks_208 : decode cX12_ticks 208 = .ok (.aload_n 0, 1) := by decide +kernel
theorem dX12_ticks_209 : decode cX12_ticks 209 = .ok (.getfield 7, 3) := by decide +kernel
theorem dX12_ticks_212 : decode cX12_ticks 212 = .ok (.bipush 8, 2) := by decide +kernel
theorem dX12_ticks_214 : decode cX12_ticks 214 = .ok (.dup2, 1) := by decide +kernel
theorem dX12_ticks_215 : decode cX12_ticks 215 = .ok (.iaload, 1) := by decide +kernel
theorem dX12_ticks_216 : decode cX12_ticks 216 = .ok (.iload 6, 2) := by decide +kernel
theorem dX12_ticks_218 : decode cX12_ticks 218 = .ok (.iadd, 1) := by decide +kernel
theorem dX12_ticks_219 : decode cX12_ticks 219 = .ok (.iastore, 1) := by decide +kernel
theorem dX12_ticks_220 : decode cX12_ticks 220 = .ok (.aload_n 0, 1) := by decide +kernel
theorem dX12_ticks_221 : decode cX12_ticks 221 = .ok (.getfield 7, 3) := by decide +kernel
theorem dX12_ticks_224 : decode cX12_ticks 224 = .ok (.iconst 2, 1) := by decide +kernel
theorem dX12_ticks_225 : decode cX12_ticks 225 = .ok (.iconst 0, 1) := by decide +kernel
theorem dX12_ticks_226 : decode cX12_ticks 226 = .ok (.iastore, 1) := by decide +kernel
theorem dX12_ticks_227 : decode cX12_ticks 227 = .ok (.aload_n 0, 1) := by decide +kernel
theorem dX12_ticks_228 : decode cX12_ticks 228 = .ok (.iload 6, 2) := by decide +kernel
theorem dX12_ticks_230 : decode cX12_ticks 230 = .ok (.invokevirtual 52, 3) := by decide +kernel
theorem dX12_ticks_233 : decode cX12_ticks 233 = .ok (.aload_n 0, 1) := by decide +kernel
theorem dX12_ticks_234 : decode cX12_ticks 234 = .ok (.getfield 7, 3) := by decide +kernel
theorem dX12_ticks_237 : decode cX12_ticks 237 = .ok (.iconst 3, 1) := by decide +kernel
theorem dX12_ticks_238 : decode cX12_ticks 238 = .ok (.aload_n 0, 1) := by decide +kernel
theorem dX12_ticks_239 : decode cX12_ticks 239 = .ok (.getfield 7, 3) := by decide +kernel
theorem dX12_ticks_242 : decode cX12_ticks 242 = .ok (.bipush 12, 2) := by decide +kernel
theorem dX12_ticks_244 : decode cX12_ticks 244 = .ok (.iaload, 1) := by decide +kernel
theorem dX12_ticks_245 : decode cX12_ticks 245 = .ok (.iastore, 1) := by decide +kernel
theorem dX12_ticks_246 : decode cX12_ticks 246 = .ok (.aload_n 0, 1) := by decide +kernel
theorem dX12_ticks_247 : decode cX12_ticks 247 = .ok (.getfield 7, 3) := by decide +kernel
theorem dX12_ticks_250 : decode cX12_ticks 250 = .ok (.iconst 4, 1) := by decide +kernel
theorem dX12_ticks_251 : decode cX12_ticks 251 = .ok (.iaload, 1) := by decide +kernel
theorem dX12_ticks_252 : decode cX12_ticks 252 = .ok (.ifCond .le 23, 3) := by decide +kernel
theorem dX12_ticks_255 : decode cX12_ticks 255 = .ok (.aload_n 0, 1) := by decide +kernel
theorem dX12_ticks_256 : decode cX12_ticks 256 = .ok (.getfield 7, 3) := by decide +kernel
theorem dX12_ticks_259 : decode cX12_ticks 259 = .ok (.iconst 4, 1) := by decide +kernel
theorem dX12_ticks_260 : decode cX12_ticks 260 = .ok (.dup2, 1) := by decide +kernel
theorem dX12_ticks_261 : decode cX12_ticks 261 = .ok (.iaload, 1) := by decide +kernel
theorem dX12_ticks_262 : decode cX12_ticks 262 = .ok (.iconst 1, 1) := by decide +kernel
theorem dX12_ticks_263 : decode cX12_ticks 263 = .ok (.isub, 1) := by decide +kernel
theorem dX12_ticks_264 : decode cX12_ticks 264 = .ok (.iastore, 1) := by decide +kernel
theorem dX12_ticks_265 : decode cX12_ticks 265 = .ok (.aload_n 0, 1) := by decide +kernel
theorem dX12_ticks_266 : decode cX12_ticks 266 = .ok (.getfield 7, 3) := by decide +kernel
theorem dX12_ticks_269 : decode cX12_ticks 269 = .ok (.iconst 5, 1) := by decide +kernel
theorem dX12_ticks_270 : decode cX12_ticks 270 = .ok (.dup2, 1) := by decide +kernel
theorem dX12_ticks_271 : decode cX12_ticks 271 = .ok (.iaload, 1) := by decide +kernel
theorem dX12_ticks_272 : decode cX12_ticks 272 = .ok (.iconst 1, 1) := by decide +kernel
theorem dX12_ticks_273 : decode cX12_ticks 273 = .ok (.iadd, 1) := by decide +kernel
theorem dX12_ticks_274 : decode cX12_ticks 274 = .ok (.iastore, 1) := by decide +kernel
theorem dX12_ticks_275 : decode cX12_ticks 275 = .ok (.aload_n 0, 1) := by decide +kernel
theorem dX12_ticks_276 : decode cX12_ticks 276 = .ok (.getfield 7, 3) := by decide +kernel
theorem dX12_ticks_279 : decode cX12_ticks 279 = .ok (.iconst 0, 1) := by decide +kernel
theorem dX12_ticks_280 : decode cX12_ticks 280 = .ok (.dup2, 1) := by decide +kernel
theorem dX12_ticks_281 : decode cX12_ticks 281 = .ok (.iaload, 1) := by decide +kernel
theorem dX12_ticks_282 : decode cX12_ticks 282 = .ok (.iconst 1, 1) := by decide +kernel
theorem dX12_ticks_283 : decode cX12_ticks 283 = .ok (.iadd, 1) := by decide +kernel
theorem dX12_ticks_284 : decode cX12_ticks 284 = .ok (.iastore, 1) := by decide +kernel
theorem dX12_ticks_285 : decode cX12_ticks 285 = .ok (.aload_n 0, 1) := by decide +kernel
theorem dX12_ticks_286 : decode cX12_ticks 286 = .ok (.getfield 7, 3) := by decide +kernel
theorem dX12_ticks_289 : decode cX12_ticks 289 = .ok (.bipush 26, 2) := by decide +kernel
theorem dX12_ticks_291 : decode cX12_ticks 291 = .ok (.iaload, 1) := by decide +kernel
theorem dX12_ticks_292 : decode cX12_ticks 292 = .ok (.iconst 1, 1) := by decide +kernel
theorem dX12_ticks_293 : decode cX12_ticks 293 = .ok (.isub, 1) := by decide +kernel
theorem dX12_ticks_294 : decode cX12_ticks 294 = .ok (.istore 6, 2) := by decide +kernel
theorem dX12_ticks_296 : decode cX12_ticks 296 = .ok (.iload 6, 2) := by decide +kernel
theorem dX12_ticks_298 : decode cX12_ticks 298 = .ok (.ifCond .lt 45, 3) := by decide +kernel
theorem dX12_ticks_301 : decode cX12_ticks 301 = .ok (.aload_n 0, 1) := by decide +kernel
theorem dX12_ticks_302 : decode cX12_ticks 302 = .ok (.getfield 7, 3) := by decide +kernel
theorem dX12_ticks_305 : decode cX12_ticks 305 = .ok (.bipush 27, 2) := by decide +kernel
theorem dX12_ticks_307 : decode cX12_ticks 307 = .ok (.iload 6, 2) := by decide +kernel
theorem dX12_ticks_309 : decode cX12_ticks 309 = .ok (.iadd, 1) := by decide +kernel
theorem dX12_ticks_310 : decode cX12_ticks 310 = .ok (.iaload, 1) := by decide +kernel
theorem dX12_ticks_311 : decode cX12_ticks 311 = .ok (.aload_n 0, 1) := by decide +kernel
theorem dX12_ticks_312 : decode cX12_ticks 312 = .ok (.getfield 7, 3) := by decide +kernel
theorem dX12_ticks_315 : decode cX12_ticks 315 = .ok (.bipush 39, 2) := by decide +kernel
theorem dX12_ticks_317 : decode cX12_ticks 317 = .ok (.iload 6, 2) := by decide +kernel
theorem dX12_ticks_319 : decode cX12_ticks 319 = .ok (.iadd, 1) := by decide +kernel
theorem dX12_ticks_320 : decode cX12_ticks 320 = .ok (.iaload, 1) := by decide +kernel
theorem dX12_ticks_321 : decode cX12_ticks 321 = .ok (.iadd, 1) := by decide +kernel
theorem dX12_ticks_322 : decode cX12_ticks 322 = .ok (.aload_n 0, 1) := by decide +kernel
theorem dX12_ticks_323 : decode cX12_ticks 323 = .ok (.getfield 7, 3) := by decide +kernel
theorem dX12_ticks_326 : decode cX12_ticks 326 = .ok (.iconst 0, 1) := by decide +kernel
theorem dX12_ticks_327 : decode cX12_ticks 327 = .ok (.iaload, 1) := by decide +kernel
theorem dX12_ticks_328 : decode cX12_ticks 328 = .ok (.if_icmp .gt 9, 3) := by decide +kernel
theorem dX12_ticks_331 : decode cX12_ticks 331 = .ok (.aload_n 0, 1) := by decide +kernel
theorem dX12_ticks_332 : decode cX12_ticks 332 = .ok (.iload 6, 2) := by decide +kernel
theorem dX12_ticks_334 : decode cX12_ticks 334 = .ok (.invokevirtual 56, 3) := by decide +kernel
theorem dX12_ticks_337 : decode cX12_ticks 337 = .ok (.iinc 6 (-1), 3) := by decide +kernel
theorem dX12_ticks_340 : decode cX12_ticks 340 = .ok (.goto (-44), 3) := by decide +kernel
theorem dX12_ticks_343 : decode cX12_ticks 343 = .ok (.iload 5, 2) := by decide +kernel
theorem dX12_ticks_345 : decode cX12_ticks 345 = .ok (.ireturn, 1) := by decide +kernel
theorem dX12_goes_0 : decode cX12_goes 0 = .ok (.iconst 0, 1) := by decide +kernel
theorem dX12_goes_1 : decode cX12_goes 1 = .ok (.istore_n 2, 1) := by decide +kernel
theorem dX12_goes_2 : decode cX12_goes 2 = .ok (.iconst 0, 1) := by decide +kernel
theorem dX12_goes_3 : decode cX12_goes 3 = .ok (.istore_n 3, 1) := by decide +kernel
theorem dX12_goes_4 : decode cX12_goes 4 = .ok (.iload_n 3, 1) := by decide +kernel
theorem dX12_goes_5 : decode cX12_goes 5 = .ok (.iload_n 1, 1) := by decide +kernel
theorem dX12_goes_6 : decode cX12_goes 6 = .ok (.if_icmp .ge 24, 3) := by decide +kernel
theorem dX12_goes_9 : decode cX12_goes 9 = .ok (.iload_n 2, 1) := by decide +kernel
theorem dX12_goes_10 : decode cX12_goes 10 = .ok (.aload_n 0, 1) := by decide +kernel
theorem dX12_goes_11 : decode cX12_goes 11 = .ok (.invokevirtual 59, 3) := by decide +kernel
theorem dX12_goes_14 : decode cX12_goes 14 = .ok (.ifCond .eq 7, 3) := by decide +kernel
theorem dX12_goes_17 : decode cX12_goes 17 = .ok (.iconst 1, 1) := by decide +kernel
theorem dX12_goes_18 : decode cX12_goes 18 = .ok (.goto 4, 3) := by decide +kernel
theorem dX12_goes_21 : decode cX12_goes 21 = .ok (.iconst 0, 1) := by decide +kernel
theorem dX12_goes_22 : decode cX12_goes 22 = .ok (.iadd, 1) := by decide +kernel
theorem dX12_goes_23 : decode cX12_goes 23 = .ok (.istore_n 2, 1) := by decide +kernel
theorem dX12_goes_24 : decode cX12_goes 24 = .ok (.iinc 3 1, 3) := by decide +kernel
theorem dX12_goes_27 : decode cX12_goes 27 = .ok (.goto (-23), 3) := by decide +kernel
theorem dX12_goes_30 : decode cX12_goes 30 = .ok (.iload_n 2, 1) := by decide +kernel
theorem dX12_goes_31 : decode cX12_goes 31 = .ok (.ireturn, 1) := by decide +kernel
theorem dX12_puts_0 : decode cX12_puts 0 = .ok (.aload_n 0, 1) := by decide +kernel
theorem dX12_puts_1 : decode cX12_puts 1 = .ok (.getfield 7, 3) := by decide +kernel
theorem dX12_puts_4 : decode cX12_puts 4 = .ok (.bipush 26, 2) := by decide +kernel
theorem dX12_puts_6 : decode cX12_puts 6 = .ok (.iaload, 1) := by decide +kernel
theorem dX12_puts_7 : decode cX12_puts 7 = .ok (.istore 4, 2) := by decide +kernel
theorem dX12_puts_9 : decode cX12_puts 9 = .ok (.iload 4, 2) := by decide +kernel
theorem dX12_puts_11 : decode cX12_puts 11 = .ok (.ifCond .le 64, 3) := by decide +kernel
theorem dX12_puts_14 : decode cX12_puts 14 = .ok (.aload_n 0, 1) := by decide +kernel
theorem dX12_puts_15 : decode cX12_puts 15 = .ok (.getfield 7, 3) := by decide +kernel
theorem dX12_puts_18 : decode cX12_puts 18 = .ok (.bipush 27, 2) := by decide +kernel
theorem dX12_puts_20 : decode cX12_puts 20 = .ok (.iload 4, 2) := by decide +kernel
theorem dX12_puts_22 : decode cX12_puts 22 = .ok (.iadd, 1) := by decide +kernel
theorem dX12_puts_23 : decode cX12_puts 23 = .ok (.iconst 1, 1) := by decide +kernel
theorem dX12_puts_24 : decode cX12_puts 24 = .ok (.isub, 1) := by decide +kernel
theorem dX12_puts_25 : decode cX12_puts 25 = .ok (.iaload, 1) := by decide +kernel
theorem dX12_puts_26 : decode cX12_puts 26 = .ok (.iload_n 1, 1) := by decide +kernel
theorem dX12_puts_27 : decode cX12_puts 27 = .ok (.if_icmp .le 48, 3) := by decide +kernel
theorem dX12_puts_30 : decode cX12_puts 30 = .ok (.bipush 27, 2) := by decide +kernel
theorem dX12_puts_32 : decode cX12_puts 32 = .ok (.istore 5, 2) := by decide +kernel
theorem dX12_puts_34 : decode cX12_puts 34 = .ok (.iload 5, 2) := by decide +kernel
theorem dX12_puts_36 : decode cX12_puts 36 = .ok (.bipush 51, 2) := by decide +kernel
theorem dX12_puts_38 : decode cX12_puts 38 = .ok (.if_icmp .gt 31, 3) := by decide +kernel
theorem dX12_puts_41 : decode cX12_puts 41 = .ok (.aload_n 0, 1) := by decide +kernel
theorem dX12_puts_42 : decode cX12_puts 42 = .ok (.getfield 7, 3) := by decide +kernel
theorem dX12_puts_45 : decode cX12_puts 45 = .ok (.iload 5, 2) := by decide +kernel
theorem dX12_puts_47 : decode cX12_puts 47 = .ok (.iload 4, 2) := by decide +kernel
theorem dX12_puts_49 : decode cX12_puts 49 = .ok (.iadd, 1) := by decide +kernel
theorem dX12_puts_50 : decode cX12_puts 50 = .ok (.aload_n 0, 1) := by decide +kernel
theorem dX12_puts_51 : decode cX12_puts 51 = .ok (.getfield 7, 3) := by decide +kernel
theorem dX12_puts_54 : decode cX12_puts 54 = .ok (.iload 5, 2) := by decide +kernel
theorem dX12_puts_56 : decode cX12_puts 56 = .ok (.iload 4, 2) := by decide +kernel
theorem dX12_puts_58 : decode cX12_puts 58 = .ok (.iadd, 1) := by decide +kernel
theorem dX12_puts_59 : decode cX12_puts 59 = .ok (.iconst 1, 1) := by decide +kernel
theorem dX12_puts_60 : decode cX12_puts 60 = .ok (.isub, 1) := by decide +kernel
theorem dX12_puts_61 : decode cX12_puts 61 = .ok (.iaload, 1) := by decide +kernel
theorem dX12_puts_62 : decode cX12_puts 62 = .ok (.iastore, 1) := by decide +kernel
theorem dX12_puts_63 : decode cX12_puts 63 = .ok (.iinc 5 12, 3) := by decide +kernel
theorem dX12_puts_66 : decode cX12_puts 66 = .ok (.goto (-32), 3) := by decide +kernel
theorem dX12_puts_69 : decode cX12_puts 69 = .ok (.iinc 4 (-1), 3) := by decide +kernel
theorem dX12_puts_72 : decode cX12_puts 72 = .ok (.goto (-63), 3) := by decide +kernel
theorem dX12_puts_75 : decode cX12_puts 75 = .ok (.aload_n 0, 1) := by decide +kernel
theorem dX12_puts_76 : decode cX12_puts 76 = .ok (.getfield 7, 3) := by decide +kernel
theorem dX12_puts_79 : decode cX12_puts 79 = .ok (.bipush 27, 2) := by decide +kernel
theorem dX12_puts_81 : decode cX12_puts 81 = .ok (.iload 4, 2) := by decide +kernel
theorem dX12_puts_83 : decode cX12_puts 83 = .ok (.iadd, 1) := by decide +kernel
theorem dX12_puts_84 : decode cX12_puts 84 = .ok (.iload_n 1, 1) := by decide +kernel
theorem dX12_puts_85 : decode cX12_puts 85 = .ok (.iastore, 1) := by decide +kernel
theorem dX12_puts_86 : decode cX12_puts 86 = .ok (.aload_n 0, 1) := by decide +kernel
theorem dX12_puts_87 : decode cX12_puts 87 = .ok (.getfield 7, 3) := by decide +kernel
theorem dX12_puts_90 : decode cX12_puts 90 = .ok (.bipush 39, 2) := by decide +kernel
theorem dX12_puts_92 : decode cX12_puts 92 = .ok (.iload 4, 2) := by decide +kernel
theorem dX12_puts_94 : decode cX12_puts 94 = .ok (.iadd, 1) := by decide +kernel
theorem dX12_puts_95 : decode cX12_puts 95 = .ok (.iload_n 2, 1) := by decide +kernel
theorem dX12_puts_96 : decode cX12_puts 96 = .ok (.iastore, 1) := by decide +kernel
theorem dX12_puts_97 : decode cX12_puts 97 = .ok (.aload_n 0, 1) := by decide +kernel
theorem dX12_puts_98 : decode cX12_puts 98 = .ok (.getfield 7, 3) := by decide +kernel
theorem dX12_puts_101 : decode cX12_puts 101 = .ok (.bipush 51, 2) := by decide +kernel
theorem dX12_puts_103 : decode cX12_puts 103 = .ok (.iload 4, 2) := by decide +kernel
theorem dX12_puts_105 : decode cX12_puts 105 = .ok (.iadd, 1) := by decide +kernel
theorem dX12_puts_106 : decode cX12_puts 106 = .ok (.iload_n 3, 1) := by decide +kernel
theorem dX12_puts_107 : decode cX12_puts 107 = .ok (.iastore, 1) := by decide +kernel
theorem dX12_puts_108 : decode cX12_puts 108 = .ok (.aload_n 0, 1) := by decide +kernel
theorem dX12_puts_109 : decode cX12_puts 109 = .ok (.getfield 7, 3) := by decide +kernel
theorem dX12_puts_112 : decode cX12_puts 112 = .ok (.bipush 26, 2) := by decide +kernel
theorem dX12_puts_114 : decode cX12_puts 114 = .ok (.dup2, 1) := by decide +kernel
theorem dX12_puts_115 : decode cX12_puts 115 = .ok (.iaload, 1) := by decide +kernel
theorem dX12_puts_116 : decode cX12_puts 116 = .ok (.iconst 1, 1) := by decide +kernel
theorem dX12_puts_117 : decode cX12_puts 117 = .ok (.iadd, 1) := by decide +kernel
theorem dX12_puts_118 : decode cX12_puts 118 = .ok (.iastore, 1) := by decide +kernel
theorem dX12_puts_119 : decode cX12_puts 119 = .ok (.iload 4, 2) := by decide +kernel
theorem dX12_puts_121 : decode cX12_puts 121 = .ok (.ireturn, 1) := by decide +kernel
theorem dX12_addShower_0 : decode cX12_addShower 0 = .ok (.iload_n 1, 1) := by decide +kernel
theorem dX12_addShower_1 : decode cX12_addShower 1 = .ok (.aload_n 0, 1) := by decide +kernel
theorem dX12_addShower_2 : decode cX12_addShower 2 = .ok (.getfield 7, 3) := by decide +kernel
theorem dX12_addShower_5 : decode cX12_addShower 5 = .ok (.iconst 0, 1) := by decide +kernel
theorem dX12_addShower_6 : decode cX12_addShower 6 = .ok (.iaload, 1) := by decide +kernel
theorem dX12_addShower_7 : decode cX12_addShower 7 = .ok (.sipush 5000, 3) := by decide +kernel
theorem dX12_addShower_10 : decode cX12_addShower 10 = .ok (.invokestatic 33, 3) := by decide +kernel
theorem dX12_addShower_13 : decode cX12_addShower 13 = .ok (.ifCond .eq 25, 3) := by decide +kernel
theorem dX12_addShower_16 : decode cX12_addShower 16 = .ok (.iload_n 2, 1) := by decide +kernel
theorem dX12_addShower_17 : decode cX12_addShower 17 = .ok (.iconst 1, 1) := by decide +kernel
theorem dX12_addShower_18 : decode cX12_addShower 18 = .ok (.sipush 500, 3) := by decide +kernel
theorem dX12_addShower_21 : decode cX12_addShower 21 = .ok (.invokestatic 33, 3) := by decide +kernel
theorem dX12_addShower_24 : decode cX12_addShower 24 = .ok (.ifCond .eq 14, 3) := by decide +kernel
theorem dX12_addShower_27 : decode cX12_addShower 27 = .ok (.iload_n 3, 1) := by decide +kernel
theorem dX12_addShower_28 : decode cX12_addShower 28 = .ok (.iconst 1, 1) := by decide +kernel
theorem dX12_addShower_29 : decode cX12_addShower 29 = .ok (.sipush 200, 3) := by decide +kernel
theorem dX12_addShower_32 : decode cX12_addShower 32 = .ok (.invokestatic 33, 3) := by decide +kernel
theorem dX12_addShower_35 : decode cX12_addShower 35 = .ok (.ifCond .ne 5, 3) := by decide +kernel
theorem dX12_addShower_38 : decode cX12_addShower 38 = .ok (.iconst (-1), 1) := by decide +kernel
theorem dX12_addShower_39 : decode cX12_addShower 39 = .ok (.ireturn, 1) := by decide +kernel
theorem dX12_addShower_40 : decode cX12_addShower 40 = .ok (.aload_n 0, 1) := by decide +kernel
theorem dX12_addShower_41 : decode cX12_addShower 41 = .ok (.getfield 7, 3) := by decide +kernel
theorem dX12_addShower_44 : decode cX12_addShower 44 = .ok (.bipush 26, 2) := by decide +kernel
theorem dX12_addShower_46 : decode cX12_addShower 46 = .ok (.iaload, 1) := by decide +kernel
theorem dX12_addShower_47 : decode cX12_addShower 47 = .ok (.bipush 12, 2) := by decide +kernel
theorem dX12_addShower_49 : decode cX12_addShower 49 = .ok (.if_icmp .ne 6, 3) := by decide +kernel
theorem dX12_addShower_52 : decode cX12_addShower 52 = .ok (.bipush (-3), 2) := by decide +kernel
theorem dX12_addShower_54 : decode cX12_addShower 54 = .ok (.ireturn, 1) := by decide +kernel
theorem dX12_addShower_55 : decode cX12_addShower 55 = .ok (.aload_n 0, 1) := by decide +kernel
theorem dX12_addShower_56 : decode cX12_addShower 56 = .ok (.invokevirtual 63, 3) := by decide +kernel
theorem dX12_addShower_59 : decode cX12_addShower 59 = .ok (.aload_n 0, 1) := by decide +kernel
theorem dX12_addShower_60 : decode cX12_addShower 60 = .ok (.iload_n 1, 1) := by decide +kernel
theorem dX12_addShower_61 : decode cX12_addShower 61 = .ok (.iload_n 2, 1) := by decide +kernel
theorem dX12_addShower_62 : decode cX12_addShower 62 = .ok (.iload_n 3, 1) := by decide +kernel
theorem dX12_addShower_63 : decode cX12_addShower 63 = .ok (.invokevirtual 66, 3) := by decide +kernel
theorem dX12_addShower_66 : decode cX12_addShower 66 = .ok (.ireturn, 1) := by decide +kernel
theorem dX12_isShower_0 : decode cX12_isShower 0 = .ok (.iload_n 1, 1) := by decide +kernel
theorem dX12_isShower_1 : decode cX12_isShower 1 = .ok (.iconst 0, 1) := by decide +kernel
theorem dX12_isShower_2 : decode cX12_isShower 2 = .ok (.aload_n 0, 1) := by decide +kernel
theorem dX12_isShower_3 : decode cX12_isShower 3 = .ok (.getfield 7, 3) := by decide +kernel
theorem dX12_isShower_6 : decode cX12_isShower 6 = .ok (.bipush 26, 2) := by decide +kernel
theorem dX12_isShower_8 : decode cX12_isShower 8 = .ok (.iaload, 1) := by decide +kernel
theorem dX12_isShower_9 : decode cX12_isShower 9 = .ok (.iconst 1, 1) := by decide +kernel
theorem dX12_isShower_10 : decode cX12_isShower 10 = .ok (.isub, 1) := by decide +kernel
theorem dX12_isShower_11 : decode cX12_isShower 11 = .ok (.invokestatic 33, 3) := by decide +kernel
theorem dX12_isShower_14 : decode cX12_isShower 14 = .ok (.ireturn, 1) := by decide +kernel
theorem dX12_cancel_0 : decode cX12_cancel 0 = .ok (.aload_n 0, 1) := by decide +kernel
theorem dX12_cancel_1 : decode cX12_cancel 1 = .ok (.iload_n 1, 1) := by decide +kernel
theorem dX12_cancel_2 : decode cX12_cancel 2 = .ok (.invokevirtual 70, 3) := by decide +kernel
theorem dX12_cancel_5 : decode cX12_cancel 5 = .ok (.ifCond .ne 5, 3) := by decide +kernel
theorem dX12_cancel_8 : decode cX12_cancel 8 = .ok (.iconst (-1), 1) := by decide +kernel
theorem dX12_cancel_9 : decode cX12_cancel 9 = .ok (.ireturn, 1) := by decide +kernel
theorem dX12_cancel_10 : decode cX12_cancel 10 = .ok (.aload_n 0, 1) := by decide +kernel
theorem dX12_cancel_11 : decode cX12_cancel 11 = .ok (.getfield 7, 3) := by decide +kernel
theorem dX12_cancel_14 : decode cX12_cancel 14 = .ok (.bipush 27, 2) := by decide +kernel
theorem dX12_cancel_16 : decode cX12_cancel 16 = .ok (.iload_n 1, 1) := by decide +kernel
theorem dX12_cancel_17 : decode cX12_cancel 17 = .ok (.iadd, 1) := by decide +kernel
theorem dX12_cancel_18 : decode cX12_cancel 18 = .ok (.iaload, 1) := by decide +kernel
theorem dX12_cancel_19 : decode cX12_cancel 19 = .ok (.aload_n 0, 1) := by decide +kernel
theorem dX12_cancel_20 : decode cX12_cancel 20 = .ok (.getfield 7, 3) := by decide +kernel
theorem dX12_cancel_23 : decode cX12_cancel 23 = .ok (.iconst 0, 1) := by decide +kernel
theorem dX12_cancel_24 : decode cX12_cancel 24 = .ok (.iaload, 1) := by decide +kernel
theorem dX12_cancel_25 : decode cX12_cancel 25 = .ok (.if_icmp .ge 6, 3) := by decide +kernel
theorem dX12_cancel_28 : decode cX12_cancel 28 = .ok (.bipush (-2), 2) := by decide +kernel
theorem dX12_cancel_30 : decode cX12_cancel 30 = .ok (.ireturn, 1) := by decide +kernel
theorem dX12_cancel_31 : decode cX12_cancel 31 = .ok (.aload_n 0, 1) := by decide +kernel
theorem dX12_cancel_32 : decode cX12_cancel 32 = .ok (.invokevirtual 63, 3) := by decide +kernel
theorem dX12_cancel_35 : decode cX12_cancel 35 = .ok (.aload_n 0, 1) := by decide +kernel
theorem dX12_cancel_36 : decode cX12_cancel 36 = .ok (.iload_n 1, 1) := by decide +kernel
theorem dX12_cancel_37 : decode cX12_cancel 37 = .ok (.invokevirtual 56, 3) := by decide +kernel
theorem dX12_cancel_40 : decode cX12_cancel 40 = .ok (.aload_n 0, 1) := by decide +kernel
theorem dX12_cancel_41 : decode cX12_cancel 41 = .ok (.getfield 7, 3) := by decide +kernel
theorem dX12_cancel_44 : decode cX12_cancel 44 = .ok (.bipush 26, 2) := by decide +kernel
theorem dX12_cancel_46 : decode cX12_cancel 46 = .ok (.iaload, 1) := by decide +kernel
theorem dX12_cancel_47 : decode cX12_cancel 47 = .ok (.ireturn, 1) := by decide +kernel
theorem dX12_shower_0 : decode cX12_shower 0 = .ok (.aload_n 0, 1) := by decide +kernel
theorem dX12_shower_1 : decode cX12_shower 1 = .ok (.iload_n 1, 1) := by decide +kernel
theorem dX12_shower_2 : decode cX12_shower 2 = .ok (.invokevirtual 70, 3) := by decide +kernel
theorem dX12_shower_5 : decode cX12_shower 5 = .ok (.ifCond .eq 12, 3) := by decide +kernel
theorem dX12_shower_8 : decode cX12_shower 8 = .ok (.iload_n 2, 1) := by decide +kernel
theorem dX12_shower_9 : decode cX12_shower 9 = .ok (.iconst 0, 1) := by decide +kernel
theorem dX12_shower_10 : decode cX12_shower 10 = .ok (.iconst 3, 1) := by decide +kernel
theorem dX12_shower_11 : decode cX12_shower 11 = .ok (.invokestatic 33, 3) := by decide +kernel
theorem dX12_shower_14 : decode cX12_shower 14 = .ok (.ifCond .ne 5, 3) := by decide +kernel
theorem dX12_shower_17 : decode cX12_shower 17 = .ok (.iconst (-1), 1) := by decide +kernel
theorem dX12_shower_18 : decode cX12_shower 18 = .ok (.ireturn, 1) := by decide +kernel
theorem dX12_shower_19 : decode cX12_shower 19 = .ok (.aload_n 0, 1) := by decide +kernel
theorem dX12_shower_20 : decode cX12_shower 20 = .ok (.getfield 7, 3) := by decide +kernel
theorem dX12_shower_23 : decode cX12_shower 23 = .ok (.bipush 27, 2) := by decide +kernel
theorem dX12_shower_25 : decode cX12_shower 25 = .ok (.iload_n 1, 1) := by decide +kernel
theorem dX12_shower_26 : decode cX12_shower 26 = .ok (.iadd, 1) := by decide +kernel
theorem dX12_shower_27 : decode cX12_shower 27 = .ok (.iaload, 1) := by decide +kernel
theorem dX12_shower_28 : decode cX12_shower 28 = .ok (.istore_n 3, 1) := by decide +kernel
theorem dX12_shower_29 : decode cX12_shower 29 = .ok (.iload_n 2, 1) := by decide +kernel
theorem dX12_shower_30 : decode cX12_shower 30 = .ok (.iconst 3, 1) := by decide +kernel
theorem dX12_shower_31 : decode cX12_shower 31 = .ok (.if_icmp .ne 36, 3) := by decide +kernel
theorem dX12_shower_34 : decode cX12_shower 34 = .ok (.iload_n 3, 1) := by decide +kernel
theorem dX12_shower_35 : decode cX12_shower 35 = .ok (.aload_n 0, 1) := by decide +kernel
theorem dX12_shower_36 : decode cX12_shower 36 = .ok (.getfield 7, 3) := by decide +kernel
theorem dX12_shower_39 : decode cX12_shower 39 = .ok (.bipush 39, 2) := by decide +kernel
theorem dX12_shower_41 : decode cX12_shower 41 = .ok (.iload_n 1, 1) := by decide +kernel
theorem dX12_shower_42 : decode cX12_shower 42 = .ok (.iadd, 1) := by decide +kernel
theorem dX12_shower_43 : decode cX12_shower 43 = .ok (.iaload, 1) := by decide +kernel
theorem dX12_shower_44 : decode cX12_shower 44 = .ok (.iadd, 1) := by decide +kernel
theorem dX12_shower_45 : decode cX12_shower 45 = .ok (.iload_n 3, 1) := by decide +kernel
theorem dX12_shower_46 : decode cX12_shower 46 = .ok (.aload_n 0, 1) := by decide +kernel
theorem dX12_shower_47 : decode cX12_shower 47 = .ok (.getfield 7, 3) := by decide +kernel
theorem dX12_shower_50 : decode cX12_shower 50 = .ok (.iconst 0, 1) := by decide +kernel
theorem dX12_shower_51 : decode cX12_shower 51 = .ok (.iaload, 1) := by decide +kernel
theorem dX12_shower_52 : decode cX12_shower 52 = .ok (.if_icmp .le 7, 3) := by decide +kernel
theorem dX12_shower_55 : decode cX12_shower 55 = .ok (.iload_n 3, 1) := by decide +kernel
theorem dX12_shower_56 : decode cX12_shower 56 = .ok (.goto 9, 3) := by decide +kernel
theorem dX12_shower_59 : decode cX12_shower 59 = .ok (.aload_n 0, 1) := by decide +kernel
theorem dX12_shower_60 : decode cX12_shower 60 = .ok (.getfield 7, 3) := by decide +kernel
theorem dX12_shower_63 : decode cX12_shower 63 = .ok (.iconst 0, 1) := by decide +kernel
theorem dX12_shower_64 : decode cX12_shower 64 = .ok (.iaload, 1) := by decide +kernel
theorem dX12_shower_65 : decode cX12_shower 65 = .ok (.isub, 1) := by decide +kernel
theorem dX12_shower_66 : decode cX12_shower 66 = .ok (.ireturn, 1) := by decide +kernel
theorem dX12_shower_67 : decode cX12_shower 67 = .ok (.aload_n 0, 1) := by decide +kernel
theorem dX12_shower_68 : decode cX12_shower 68 = .ok (.getfield 7, 3) := by decide +kernel
theorem dX12_shower_71 : decode cX12_shower 71 = .ok (.bipush 27, 2) := by decide +kernel
theorem dX12_shower_73 : decode cX12_shower 73 = .ok (.bipush 12, 2) := by decide +kernel
theorem dX12_shower_75 : decode cX12_shower 75 = .ok (.iload_n 2, 1) := by decide +kernel
theorem dX12_shower_76 : decode cX12_shower 76 = .ok (.imul, 1) := by decide +kernel
theorem dX12_shower_77 : decode cX12_shower 77 = .ok (.iadd, 1) := by decide +kernel
theorem dX12_shower_78 : decode cX12_shower 78 = .ok (.iload_n 1, 1) := by decide +kernel
theorem dX12_shower_79 : decode cX12_shower 79 = .ok (.iadd, 1) := by decide +kernel
theorem dX12_shower_80 : decode cX12_shower 80 = .ok (.iaload, 1) := by decide +kernel
theorem dX12_shower_81 : decode cX12_shower 81 = .ok (.ireturn, 1) := by decide +kernel
theorem dX12_run_0 : decode cX12_run 0 = .ok (.iload_n 1, 1) := by decide +kernel
theorem dX12_run_1 : decode cX12_run 1 = .ok (.iconst 1, 1) := by decide +kernel
theorem dX12_run_2 : decode cX12_run 2 = .ok (.sipush 1000, 3) := by decide +kernel
theorem dX12_run_5 : decode cX12_run 5 = .ok (.invokestatic 33, 3) := by decide +kernel
theorem dX12_run_8 : decode cX12_run 8 = .ok (.ifCond .ne 5, 3) := by decide +kernel
theorem dX12_run_11 : decode cX12_run 11 = .ok (.iconst (-1), 1) := by decide +kernel
theorem dX12_run_12 : decode cX12_run 12 = .ok (.ireturn, 1) := by decide +kernel
theorem dX12_run_13 : decode cX12_run 13 = .ok (.aload_n 0, 1) := by decide +kernel
theorem dX12_run_14 : decode cX12_run 14 = .ok (.getfield 7, 3) := by decide +kernel
theorem dX12_run_17 : decode cX12_run 17 = .ok (.iconst 0, 1) := by decide +kernel
theorem dX12_run_18 : decode cX12_run 18 = .ok (.iaload, 1) := by decide +kernel
theorem dX12_run_19 : decode cX12_run 19 = .ok (.iload_n 1, 1) := by decide +kernel
theorem dX12_run_20 : decode cX12_run 20 = .ok (.iadd, 1) := by decide +kernel
theorem dX12_run_21 : decode cX12_run 21 = .ok (.sipush 5000, 3) := by decide +kernel
theorem dX12_run_24 : decode cX12_run 24 = .ok (.if_icmp .le 6, 3) := by decide +kernel
theorem dX12_run_27 : decode cX12_run 27 = .ok (.bipush (-3), 2) := by decide +kernel
theorem dX12_run_29 : decode cX12_run 29 = .ok (.ireturn, 1) := by decide +kernel
theorem dX12_run_30 : decode cX12_run 30 = .ok (.aload_n 0, 1) := by decide +kernel
theorem dX12_run_31 : decode cX12_run 31 = .ok (.invokevirtual 63, 3) := by decide +kernel
theorem dX12_run_34 : decode cX12_run 34 = .ok (.aload_n 0, 1) := by decide +kernel
theorem dX12_run_35 : decode cX12_run 35 = .ok (.iload_n 1, 1) := by decide +kernel
theorem dX12_run_36 : decode cX12_run 36 = .ok (.invokevirtual 74, 3) := by decide +kernel
theorem dX12_run_39 : decode cX12_run 39 = .ok (.ireturn, 1) := by decide +kernel
theorem dX12_undo_0 : decode cX12_undo 0 = .ok (.aload_n 0, 1) := by decide +kernel
theorem dX12_undo_1 : decode cX12_undo 1 = .ok (.getfield 29, 3) := by decide +kernel
theorem dX12_undo_4 : decode cX12_undo 4 = .ok (.ifCond .ne 6, 3) := by decide +kernel
theorem dX12_undo_7 : decode cX12_undo 7 = .ok (.bipush (-2), 2) := by decide +kernel
theorem dX12_undo_9 : decode cX12_undo 9 = .ok (.ireturn, 1) := by decide +kernel
theorem dX12_undo_10 : decode cX12_undo 10 = .ok (.aload_n 0, 1) := by decide +kernel
theorem dX12_undo_11 : decode cX12_undo 11 = .ok (.dup, 1) := by decide +kernel
theorem dX12_undo_12 : decode cX12_undo 12 = .ok (.getfield 29, 3) := by decide +kernel
theorem dX12_undo_15 : decode cX12_undo 15 = .ok (.iconst 1, 1) := by decide +kernel
theorem dX12_undo_16 : decode cX12_undo 16 = .ok (.isub, 1) := by decide +kernel
theorem dX12_undo_17 : decode cX12_undo 17 = .ok (.putfield 29, 3) := by decide +kernel
theorem dX12_undo_20 : decode cX12_undo 20 = .ok (.iconst 0, 1) := by decide +kernel
theorem dX12_undo_21 : decode cX12_undo 21 = .ok (.istore_n 1, 1) := by decide +kernel
theorem dX12_undo_22 : decode cX12_undo 22 = .ok (.iload_n 1, 1) := by decide +kernel
theorem dX12_undo_23 : decode cX12_undo 23 = .ok (.sipush 244, 3) := by decide +kernel
theorem dX12_undo_26 : decode cX12_undo 26 = .ok (.if_icmp .ge 30, 3) := by decide +kernel
theorem dX12_undo_29 : decode cX12_undo 29 = .ok (.aload_n 0, 1) := by decide +kernel
theorem dX12_undo_30 : decode cX12_undo 30 = .ok (.getfield 7, 3) := by decide +kernel
theorem dX12_undo_33 : decode cX12_undo 33 = .ok (.iload_n 1, 1) := by decide +kernel
theorem dX12_undo_34 : decode cX12_undo 34 = .ok (.aload_n 0, 1) := by decide +kernel
theorem dX12_undo_35 : decode cX12_undo 35 = .ok (.getfield 13, 3) := by decide +kernel
theorem dX12_undo_38 : decode cX12_undo 38 = .ok (.sipush 244, 3) := by decide +kernel
theorem dX12_undo_41 : decode cX12_undo 41 = .ok (.aload_n 0, 1) := by decide +kernel
theorem dX12_undo_42 : decode cX12_undo 42 = .ok (.getfield 29, 3) := by decide +kernel
theorem dX12_undo_45 : decode cX12_undo 45 = .ok (.imul, 1) := by decide +kernel
theorem dX12_undo_46 : decode cX12_undo 46 = .ok (.iload_n 1, 1) := by decide +kernel
theorem dX12_undo_47 : decode cX12_undo 47 = .ok (.iadd, 1) := by decide +kernel
theorem dX12_undo_48 : decode cX12_undo 48 = .ok (.iaload, 1) := by decide +kernel
theorem dX12_undo_49 : decode cX12_undo 49 = .ok (.iastore, 1) := by decide +kernel
theorem dX12_undo_50 : decode cX12_undo 50 = .ok (.iinc 1 1, 3) := by decide +kernel
theorem dX12_undo_53 : decode cX12_undo 53 = .ok (.goto (-31), 3) := by decide +kernel
theorem dX12_undo_56 : decode cX12_undo 56 = .ok (.aload_n 0, 1) := by decide +kernel
theorem dX12_undo_57 : decode cX12_undo 57 = .ok (.getfield 29, 3) := by decide +kernel
theorem dX12_undo_60 : decode cX12_undo 60 = .ok (.ireturn, 1) := by decide +kernel
theorem dX12_isSetting_0 : decode cX12_isSetting 0 = .ok (.iload_n 0, 1) := by decide +kernel
theorem dX12_isSetting_1 : decode cX12_isSetting 1 = .ok (.tableswitch 110 0 7 #[47, 57, 65, 74, 74, 82, 92, 101], 47) := by decide +kernel
theorem dX12_isSetting_48 : decode cX12_isSetting 48 = .ok (.iload_n 1, 1) := by decide +kernel
theorem dX12_isSetting_49 : decode cX12_isSetting 49 = .ok (.bipush 20, 2) := by decide +kernel
theorem dX12_isSetting_51 : decode cX12_isSetting 51 = .ok (.sipush 500, 3) := by decide +kernel
theorem dX12_isSetting_54 : decode cX12_isSetting 54 = .ok (.invokestatic 33, 3) := by decide +kernel
theorem dX12_isSetting_57 : decode cX12_isSetting 57 = .ok (.ireturn, 1) := by decide +kernel
theorem dX12_isSetting_58 : decode cX12_isSetting 58 = .ok (.iload_n 1, 1) := by decide +kernel
theorem dX12_isSetting_59 : decode cX12_isSetting 59 = .ok (.iconst 0, 1) := by decide +kernel
theorem dX12_isSetting_60 : decode cX12_isSetting 60 = .ok (.bipush 20, 2) := by decide +kernel
theorem dX12_isSetting_62 : decode cX12_isSetting 62 = .ok (.invokestatic 33, 3) := by decide +kernel
theorem dX12_isSetting_65 : decode cX12_isSetting 65 = .ok (.ireturn, 1) := by decide +kernel
theorem dX12_isSetting_66 : decode cX12_isSetting 66 = .ok (.iload_n 1, 1) := by decide +kernel
theorem dX12_isSetting_67 : decode cX12_isSetting 67 = .ok (.iconst 0, 1) := by decide +kernel
theorem dX12_isSetting_68 : decode cX12_isSetting 68 = .ok (.sipush 200, 3) := by decide +kernel
theorem dX12_isSetting_71 : decode cX12_isSetting 71 = .ok (.invokestatic 33, 3) := by decide +kernel
theorem dX12_isSetting_74 : decode cX12_isSetting 74 = .ok (.ireturn, 1) := by decide +kernel
theorem dX12_isSetting_75 : decode cX12_isSetting 75 = .ok (.iload_n 1, 1) := by decide +kernel
theorem dX12_isSetting_76 : decode cX12_isSetting 76 = .ok (.iconst 0, 1) := by decide +kernel
theorem dX12_isSetting_77 : decode cX12_isSetting 77 = .ok (.bipush 50, 2) := by decide +kernel
theorem dX12_isSetting_79 : decode cX12_isSetting 79 = .ok (.invokestatic 33, 3) := by decide +kernel
theorem dX12_isSetting_82 : decode cX12_isSetting 82 = .ok (.ireturn, 1) := by decide +kernel
theorem dX12_isSetting_83 : decode cX12_isSetting 83 = .ok (.iload_n 1, 1) := by decide +kernel
theorem dX12_isSetting_84 : decode cX12_isSetting 84 = .ok (.bipush 10, 2) := by decide +kernel
theorem dX12_isSetting_86 : decode cX12_isSetting 86 = .ok (.sipush 1000, 3) := by decide +kernel
theorem dX12_isSetting_89 : decode cX12_isSetting 89 = .ok (.invokestatic 33, 3) := by decide +kernel
theorem dX12_isSetting_92 : decode cX12_isSetting 92 = .ok (.ireturn, 1) := by decide +kernel
theorem dX12_isSetting_93 : decode cX12_isSetting 93 = .ok (.iload_n 1, 1) := by decide +kernel
theorem dX12_isSetting_94 : decode cX12_isSetting 94 = .ok (.iconst 1, 1) := by decide +kernel
theorem dX12_isSetting_95 : decode cX12_isSetting 95 = .ok (.sipush 2000, 3) := by decide +kernel
theorem dX12_isSetting_98 : decode cX12_isSetting 98 = .ok (.invokestatic 33, 3) := by decide +kernel
theorem dX12_isSetting_101 : decode cX12_isSetting 101 = .ok (.ireturn, 1) := by decide +kernel
theorem dX12_isSetting_102 : decode cX12_isSetting 102 = .ok (.iload_n 1, 1) := by decide +kernel
theorem dX12_isSetting_103 : decode cX12_isSetting 103 = .ok (.iconst 1, 1) := by decide +kernel
theorem dX12_isSetting_104 : decode cX12_isSetting 104 = .ok (.sipush 1000, 3) := by decide +kernel
theorem dX12_isSetting_107 : decode cX12_isSetting 107 = .ok (.invokestatic 33, 3) := by decide +kernel
theorem dX12_isSetting_110 : decode cX12_isSetting 110 = .ok (.ireturn, 1) := by decide +kernel
theorem dX12_isSetting_111 : decode cX12_isSetting 111 = .ok (.iconst 0, 1) := by decide +kernel
theorem dX12_isSetting_112 : decode cX12_isSetting 112 = .ok (.ireturn, 1) := by decide +kernel
theorem dX12_set_0 : decode cX12_set 0 = .ok (.iload_n 1, 1) := by decide +kernel
theorem dX12_set_1 : decode cX12_set 1 = .ok (.iload_n 2, 1) := by decide +kernel
theorem dX12_set_2 : decode cX12_set 2 = .ok (.invokestatic 78, 3) := by decide +kernel
theorem dX12_set_5 : decode cX12_set 5 = .ok (.ifCond .ne 5, 3) := by decide +kernel
theorem dX12_set_8 : decode cX12_set 8 = .ok (.iconst (-1), 1) := by decide +kernel
theorem dX12_set_9 : decode cX12_set 9 = .ok (.ireturn, 1) := by decide +kernel
theorem dX12_set_10 : decode cX12_set 10 = .ok (.aload_n 0, 1) := by decide +kernel
theorem dX12_set_11 : decode cX12_set 11 = .ok (.invokevirtual 63, 3) := by decide +kernel
theorem dX12_set_14 : decode cX12_set 14 = .ok (.aload_n 0, 1) := by decide +kernel
theorem dX12_set_15 : decode cX12_set 15 = .ok (.getfield 7, 3) := by decide +kernel
theorem dX12_set_18 : decode cX12_set 18 = .ok (.bipush 11, 2) := by decide +kernel
theorem dX12_set_20 : decode cX12_set 20 = .ok (.iload_n 1, 1) := by decide +kernel
theorem dX12_set_21 : decode cX12_set 21 = .ok (.iadd, 1) := by decide +kernel
theorem dX12_set_22 : decode cX12_set 22 = .ok (.iaload, 1) := by decide +kernel
theorem dX12_set_23 : decode cX12_set 23 = .ok (.istore_n 3, 1) := by decide +kernel
theorem dX12_set_24 : decode cX12_set 24 = .ok (.aload_n 0, 1) := by decide +kernel
theorem dX12_set_25 : decode cX12_set 25 = .ok (.getfield 7, 3) := by decide +kernel
theorem dX12_set_28 : decode cX12_set 28 = .ok (.bipush 11, 2) := by decide +kernel
theorem dX12_set_30 : decode cX12_set 30 = .ok (.iload_n 1, 1) := by decide +kernel
theorem dX12_set_31 : decode cX12_set 31 = .ok (.iadd, 1) := by decide +kernel
theorem dX12_set_32 : decode cX12_set 32 = .ok (.iload_n 2, 1) := by decide +kernel
theorem dX12_set_33 : decode cX12_set 33 = .ok (.iastore, 1) := by decide +kernel
theorem dX12_set_34 : decode cX12_set 34 = .ok (.iload_n 3, 1) := by decide +kernel
theorem dX12_set_35 : decode cX12_set 35 = .ok (.ireturn, 1) := by decide +kernel
theorem dX12_wind_0 : decode cX12_wind 0 = .ok (.aload_n 0, 1) := by decide +kernel
theorem dX12_wind_1 : decode cX12_wind 1 = .ok (.invokevirtual 63, 3) := by decide +kernel
theorem dX12_wind_4 : decode cX12_wind 4 = .ok (.aload_n 0, 1) := by decide +kernel
theorem dX12_wind_5 : decode cX12_wind 5 = .ok (.getfield 7, 3) := by decide +kernel
theorem dX12_wind_8 : decode cX12_wind 8 = .ok (.iconst 4, 1) := by decide +kernel
theorem dX12_wind_9 : decode cX12_wind 9 = .ok (.iaload, 1) := by decide +kernel
theorem dX12_wind_10 : decode cX12_wind 10 = .ok (.istore_n 1, 1) := by decide +kernel
theorem dX12_wind_11 : decode cX12_wind 11 = .ok (.aload_n 0, 1) := by decide +kernel
theorem dX12_wind_12 : decode cX12_wind 12 = .ok (.getfield 7, 3) := by decide +kernel
theorem dX12_wind_15 : decode cX12_wind 15 = .ok (.iconst 4, 1) := by decide +kernel
theorem dX12_wind_16 : decode cX12_wind 16 = .ok (.aload_n 0, 1) := by decide +kernel
theorem dX12_wind_17 : decode cX12_wind 17 = .ok (.getfield 7, 3) := by decide +kernel
theorem dX12_wind_20 : decode cX12_wind 20 = .ok (.bipush 17, 2) := by decide +kernel
theorem dX12_wind_22 : decode cX12_wind 22 = .ok (.iaload, 1) := by decide +kernel
theorem dX12_wind_23 : decode cX12_wind 23 = .ok (.iastore, 1) := by decide +kernel
theorem dX12_wind_24 : decode cX12_wind 24 = .ok (.iload_n 1, 1) := by decide +kernel
theorem dX12_wind_25 : decode cX12_wind 25 = .ok (.ireturn, 1) := by decide +kernel
theorem dX12_addGears_0 : decode cX12_addGears 0 = .ok (.iload_n 1, 1) := by decide +kernel
theorem dX12_addGears_1 : decode cX12_addGears 1 = .ok (.bipush 8, 2) := by decide +kernel
theorem dX12_addGears_3 : decode cX12_addGears 3 = .ok (.bipush 120, 2) := by decide +kernel
theorem dX12_addGears_5 : decode cX12_addGears 5 = .ok (.invokestatic 33, 3) := by decide +kernel
theorem dX12_addGears_8 : decode cX12_addGears 8 = .ok (.ifCond .eq 14, 3) := by decide +kernel
theorem dX12_addGears_11 : decode cX12_addGears 11 = .ok (.iload_n 2, 1) := by decide +kernel
theorem dX12_addGears_12 : decode cX12_addGears 12 = .ok (.bipush 8, 2) := by decide +kernel
theorem dX12_addGears_14 : decode cX12_addGears 14 = .ok (.bipush 120, 2) := by decide +kernel
theorem dX12_addGears_16 : decode cX12_addGears 16 = .ok (.invokestatic 33, 3) := by decide +kernel
theorem dX12_addGears_19 : decode cX12_addGears 19 = .ok (.ifCond .ne 5, 3) := by decide +kernel
theorem dX12_addGears_22 : decode cX12_addGears 22 = .ok (.iconst (-1), 1) := by decide +kernel
theorem dX12_addGears_23 : decode cX12_addGears 23 = .ok (.ireturn, 1) := by decide +kernel
theorem dX12_addGears_24 : decode cX12_addGears 24 = .ok (.aload_n 0, 1) := by decide +kernel
theorem dX12_addGears_25 : decode cX12_addGears 25 = .ok (.getfield 7, 3) := by decide +kernel
theorem dX12_addGears_28 : decode cX12_addGears 28 = .ok (.bipush 19, 2) := by decide +kernel
theorem dX12_addGears_30 : decode cX12_addGears 30 = .ok (.iaload, 1) := by decide +kernel
theorem dX12_addGears_31 : decode cX12_addGears 31 = .ok (.iconst 3, 1) := by decide +kernel
theorem dX12_addGears_32 : decode cX12_addGears 32 = .ok (.if_icmp .ne 6, 3) := by decide +kernel
theorem dX12_addGears_35 : decode cX12_addGears 35 = .ok (.bipush (-3), 2) := by decide +kernel
theorem dX12_addGears_37 : decode cX12_addGears 37 = .ok (.ireturn, 1) := by decide +kernel
theorem dX12_addGears_38 : decode cX12_addGears 38 = .ok (.aload_n 0, 1) := by decide +kernel
theorem dX12_addGears_39 : decode cX12_addGears 39 = .ok (.invokevirtual 63, 3) := by decide +kernel
theorem dX12_addGears_42 : decode cX12_addGears 42 = .ok (.aload_n 0, 1) := by decide +kernel
theorem dX12_addGears_43 : decode cX12_addGears 43 = .ok (.getfield 7, 3) := by decide +kernel
theorem dX12_addGears_46 : decode cX12_addGears 46 = .ok (.bipush 20, 2) := by decide +kernel
theorem dX12_addGears_48 : decode cX12_addGears 48 = .ok (.iconst 2, 1) := by decide +kernel
theorem dX12_addGears_49 : decode cX12_addGears 49 = .ok (.aload_n 0, 1) := by decide +kernel
theorem dX12_addGears_50 : decode cX12_addGears 50 = .ok (.getfield 7, 3) := by decide +kernel
theorem dX12_addGears_53 : decode cX12_addGears 53 = .ok (.bipush 19, 2) := by decide +kernel
theorem dX12_addGears_55 : decode cX12_addGears 55 = .ok (.iaload, 1) := by decide +kernel
theorem dX12_addGears_56 : decode cX12_addGears 56 = .ok (.imul, 1) := by decide +kernel
theorem dX12_addGears_57 : decode cX12_addGears 57 = .ok (.iadd, 1) := by decide +kernel
theorem dX12_addGears_58 : decode cX12_addGears 58 = .ok (.iload_n 1, 1) := by decide +kernel
theorem dX12_addGears_59 : decode cX12_addGears 59 = .ok (.iastore, 1) := by decide +kernel
theorem dX12_addGears_60 : decode cX12_addGears 60 = .ok (.aload_n 0, 1) := by decide +kernel
theorem dX12_addGears_61 : decode cX12_addGears 61 = .ok (.getfield 7, 3) := by decide +kernel
theorem dX12_addGears_64 : decode cX12_addGears 64 = .ok (.bipush 20, 2) := by decide +kernel
theorem dX12_addGears_66 : decode cX12_addGears 66 = .ok (.iconst 2, 1) := by decide +kernel
theorem dX12_addGears_67 : decode cX12_addGears 67 = .ok (.aload_n 0, 1) := by decide +kernel
theorem dX12_addGears_68 : decode cX12_addGears 68 = .ok (.getfield 7, 3) := by decide +kernel
theorem dX12_addGears_71 : decode cX12_addGears 71 = .ok (.bipush 19, 2) := by decide +kernel
theorem dX12_addGears_73 : decode cX12_addGears 73 = .ok (.iaload, 1) := by decide +kernel
theorem dX12_addGears_74 : decode cX12_addGears 74 = .ok (.imul, 1) := by decide +kernel
theorem dX12_addGears_75 : decode cX12_addGears 75 = .ok (.iadd, 1) := by decide +kernel
theorem dX12_addGears_76 : decode cX12_addGears 76 = .ok (.iconst 1, 1) := by decide +kernel
theorem dX12_addGears_77 : decode cX12_addGears 77 = .ok (.iadd, 1) := by decide +kernel
theorem dX12_addGears_78 : decode cX12_addGears 78 = .ok (.iload_n 2, 1) := by decide +kernel
theorem dX12_addGears_79 : decode cX12_addGears 79 = .ok (.iastore, 1) := by decide +kernel
theorem dX12_addGears_80 : decode cX12_addGears 80 = .ok (.aload_n 0, 1) := by decide +kernel
theorem dX12_addGears_81 : decode cX12_addGears 81 = .ok (.getfield 7, 3) := by decide +kernel
theorem dX12_addGears_84 : decode cX12_addGears 84 = .ok (.bipush 19, 2) := by decide +kernel
theorem dX12_addGears_86 : decode cX12_addGears 86 = .ok (.dup2, 1) := by decide +kernel
theorem dX12_addGears_87 : decode cX12_addGears 87 = .ok (.iaload, 1) := by decide +kernel
theorem dX12_addGears_88 : decode cX12_addGears 88 = .ok (.iconst 1, 1) := by decide +kernel
theorem dX12_addGears_89 : decode cX12_addGears 89 = .ok (.iadd, 1) := by decide +kernel
theorem dX12_addGears_90 : decode cX12_addGears 90 = .ok (.iastore, 1) := by decide +kernel
theorem dX12_addGears_91 : decode cX12_addGears 91 = .ok (.aload_n 0, 1) := by decide +kernel
theorem dX12_addGears_92 : decode cX12_addGears 92 = .ok (.getfield 7, 3) := by decide +kernel
theorem dX12_addGears_95 : decode cX12_addGears 95 = .ok (.bipush 19, 2) := by decide +kernel
theorem dX12_addGears_97 : decode cX12_addGears 97 = .ok (.iaload, 1) := by decide +kernel
theorem dX12_addGears_98 : decode cX12_addGears 98 = .ok (.ireturn, 1) := by decide +kernel
theorem dX12_isPair_0 : decode cX12_isPair 0 = .ok (.iload_n 1, 1) := by decide +kernel
theorem dX12_isPair_1 : decode cX12_isPair 1 = .ok (.iconst 0, 1) := by decide +kernel
theorem dX12_isPair_2 : decode cX12_isPair 2 = .ok (.aload_n 0, 1) := by decide +kernel
theorem dX12_isPair_3 : decode cX12_isPair 3 = .ok (.getfield 7, 3) := by decide +kernel
theorem dX12_isPair_6 : decode cX12_isPair 6 = .ok (.bipush 19, 2) := by decide +kernel
theorem dX12_isPair_8 : decode cX12_isPair 8 = .ok (.iaload, 1) := by decide +kernel
theorem dX12_isPair_9 : decode cX12_isPair 9 = .ok (.iconst 1, 1) := by decide +kernel
theorem dX12_isPair_10 : decode cX12_isPair 10 = .ok (.isub, 1) := by decide +kernel
theorem dX12_isPair_11 : decode cX12_isPair 11 = .ok (.invokestatic 33, 3) := by decide +kernel
theorem dX12_isPair_14 : decode cX12_isPair 14 = .ok (.ireturn, 1) := by decide +kernel
theorem dX12_removeGears_0 : decode cX12_removeGears 0 = .ok (.aload_n 0, 1) := by decide +kernel
theorem dX12_removeGears_1 : decode cX12_removeGears 1 = .ok (.iload_n 1, 1) := by decide +kernel
theorem dX12_removeGears_2 : decode cX12_removeGears 2 = .ok (.invokevirtual 82, 3) := by decide +kernel
theorem dX12_removeGears_5 : decode cX12_removeGears 5 = .ok (.ifCond .ne 5, 3) := by decide +kernel
theorem dX12_removeGears_8 : decode cX12_removeGears 8 = .ok (.iconst (-1), 1) := by decide +kernel
theorem dX12_removeGears_9 : decode cX12_removeGears 9 = .ok (.ireturn, 1) := by decide +kernel
theorem dX12_removeGears_10 : decode cX12_removeGears 10 = .ok (.aload_n 0, 1) := by decide +kernel
theorem dX12_removeGears_11 : decode cX12_removeGears 11 = .ok (.invokevirtual 63, 3) := by decide +kernel
theorem dX12_removeGears_14 : decode cX12_removeGears 14 = .ok (.aload_n 0, 1) := by decide +kernel
theorem dX12_removeGears_15 : decode cX12_removeGears 15 = .ok (.getfield 7, 3) := by decide +kernel
theorem dX12_removeGears_18 : decode cX12_removeGears 18 = .ok (.bipush 19, 2) := by decide +kernel
theorem dX12_removeGears_20 : decode cX12_removeGears 20 = .ok (.dup2, 1) := by decide +kernel
theorem dX12_removeGears_21 : decode cX12_removeGears 21 = .ok (.iaload, 1) := by decide +kernel
theorem dX12_removeGears_22 : decode cX12_removeGears 22 = .ok (.iconst 1, 1) := by decide +kernel
theorem dX12_removeGears_23 : decode cX12_removeGears 23 = .ok (.isub, 1) := by decide +kernel
theorem dX12_removeGears_24 : decode cX12_removeGears 24 = .ok (.iastore, 1) := by decide +kernel
theorem dX12_removeGears_25 : decode cX12_removeGears 25 = .ok (.iconst 2, 1) := by decide +kernel
theorem dX12_removeGears_26 : decode cX12_removeGears 26 = .ok (.iload_n 1, 1) := by decide +kernel
theorem dX12_removeGears_27 : decode cX12_removeGears 27 = .ok (.imul, 1) := by decide +kernel
theorem dX12_removeGears_28 : decode cX12_removeGears 28 = .ok (.istore_n 2, 1) := by decide +kernel
theorem dX12_removeGears_29 : decode cX12_removeGears 29 = .ok (.iload_n 2, 1) := by decide +kernel
theorem dX12_removeGears_30 : decode cX12_removeGears 30 = .ok (.iconst 2, 1) := by decide +kernel
theorem dX12_removeGears_31 : decode cX12_removeGears 31 = .ok (.aload_n 0, 1) := by decide +kernel
theorem dX12_removeGears_32 : decode cX12_removeGears 32 = .ok (.getfield 7, 3) := by decide +kernel
theorem dX12_removeGears_35 : decode cX12_removeGears 35 = .ok (.bipush 19, 2) := by decide +kernel
theorem dX12_removeGears_37 : decode cX12_removeGears 37 = .ok (.iaload, 1) := by decide +kernel
theorem dX12_removeGears_38 : decode cX12_removeGears 38 = .ok (.imul, 1) := by decide +kernel
theorem dX12_removeGears_39 : decode cX12_removeGears 39 = .ok (.if_icmp .ge 29, 3) := by decide +kernel
theorem dX12_removeGears_42 : decode cX12_removeGears 42 = .ok (.aload_n 0, 1) := by decide +kernel
theorem dX12_removeGears_43 : decode cX12_removeGears 43 = .ok (.getfield 7, 3) := by decide +kernel
theorem dX12_removeGears_46 : decode cX12_removeGears 46 = .ok (.bipush 20, 2) := by decide +kernel
theorem dX12_removeGears_48 : decode cX12_removeGears 48 = .ok (.iload_n 2, 1) := by decide +kernel
theorem dX12_removeGears_49 : decode cX12_removeGears 49 = .ok (.iadd, 1) := by decide +kernel
theorem dX12_removeGears_50 : decode cX12_removeGears 50 = .ok (.aload_n 0, 1) := by decide +kernel
theorem dX12_removeGears_51 : decode cX12_removeGears 51 = .ok (.getfield 7, 3) := by decide +kernel
theorem dX12_removeGears_54 : decode cX12_removeGears 54 = .ok (.bipush 20, 2) := by decide +kernel
theorem dX12_removeGears_56 : decode cX12_removeGears 56 = .ok (.iload_n 2, 1) := by decide +kernel
theorem dX12_removeGears_57 : decode cX12_removeGears 57 = .ok (.iadd, 1) := by decide +kernel
theorem dX12_removeGears_58 : decode cX12_removeGears 58 = .ok (.iconst 2, 1) := by decide +kernel
theorem dX12_removeGears_59 : decode cX12_removeGears 59 = .ok (.iadd, 1) := by decide +kernel
theorem dX12_removeGears_60 : decode cX12_removeGears 60 = .ok (.iaload, 1) := by decide +kernel
theorem dX12_removeGears_61 : decode cX12_removeGears 61 = .ok (.iastore, 1) := by decide +kernel
theorem dX12_removeGears_62 : decode cX12_removeGears 62 = .ok (.iinc 2 1, 3) := by decide +kernel
theorem dX12_removeGears_65 : decode cX12_removeGears 65 = .ok (.goto (-36), 3) := by decide +kernel
theorem dX12_removeGears_68 : decode cX12_removeGears 68 = .ok (.aload_n 0, 1) := by decide +kernel
theorem dX12_removeGears_69 : decode cX12_removeGears 69 = .ok (.getfield 7, 3) := by decide +kernel
theorem dX12_removeGears_72 : decode cX12_removeGears 72 = .ok (.bipush 19, 2) := by decide +kernel
theorem dX12_removeGears_74 : decode cX12_removeGears 74 = .ok (.iaload, 1) := by decide +kernel
theorem dX12_removeGears_75 : decode cX12_removeGears 75 = .ok (.ireturn, 1) := by decide +kernel
theorem dX12_gear_0 : decode cX12_gear 0 = .ok (.aload_n 0, 1) := by decide +kernel
theorem dX12_gear_1 : decode cX12_gear 1 = .ok (.iload_n 1, 1) := by decide +kernel
theorem dX12_gear_2 : decode cX12_gear 2 = .ok (.invokevirtual 82, 3) := by decide +kernel
theorem dX12_gear_5 : decode cX12_gear 5 = .ok (.ifCond .eq 28, 3) := by decide +kernel
theorem dX12_gear_8 : decode cX12_gear 8 = .ok (.iload_n 2, 1) := by decide +kernel
theorem dX12_gear_9 : decode cX12_gear 9 = .ok (.iconst 0, 1) := by decide +kernel
theorem dX12_gear_10 : decode cX12_gear 10 = .ok (.iconst 1, 1) := by decide +kernel
theorem dX12_gear_11 : decode cX12_gear 11 = .ok (.invokestatic 33, 3) := by decide +kernel
theorem dX12_gear_14 : decode cX12_gear 14 = .ok (.ifCond .eq 19, 3) := by decide +kernel
theorem dX12_gear_17 : decode cX12_gear 17 = .ok (.aload_n 0, 1) := by decide +kernel
theorem dX12_gear_18 : decode cX12_gear 18 = .ok (.getfield 7, 3) := by decide +kernel
theorem dX12_gear_21 : decode cX12_gear 21 = .ok (.bipush 20, 2) := by decide +kernel
theorem dX12_gear_23 : decode cX12_gear 23 = .ok (.iconst 2, 1) := by decide +kernel
theorem dX12_gear_24 : decode cX12_gear 24 = .ok (.iload_n 1, 1) := by decide +kernel
theorem dX12_gear_25 : decode cX12_gear 25 = .ok (.imul, 1) := by decide +kernel
theorem dX12_gear_26 : decode cX12_gear 26 = .ok (.iadd, 1) := by decide +kernel
theorem dX12_gear_27 : decode cX12_gear 27 = .ok (.iload_n 2, 1) := by decide +kernel
theorem dX12_gear_28 : decode cX12_gear 28 = .ok (.iadd, 1) := by decide +kernel
theorem dX12_gear_29 : decode cX12_gear 29 = .ok (.iaload, 1) := by decide +kernel
theorem dX12_gear_30 : decode cX12_gear 30 = .ok (.goto 4, 3) := by decide +kernel
theorem dX12_gear_33 : decode cX12_gear 33 = .ok (.iconst (-1), 1) := by decide +kernel
theorem dX12_gear_34 : decode cX12_gear 34 = .ok (.ireturn, 1) := by decide +kernel
theorem dX12_count_0 : decode cX12_count 0 = .ok (.iload_n 1, 1) := by decide +kernel
theorem dX12_count_1 : decode cX12_count 1 = .ok (.bipush 20, 2) := by decide +kernel
theorem dX12_count_3 : decode cX12_count 3 = .ok (.bipush 27, 2) := by decide +kernel
theorem dX12_count_5 : decode cX12_count 5 = .ok (.invokestatic 33, 3) := by decide +kernel
theorem dX12_count_8 : decode cX12_count 8 = .ok (.ifCond .eq 16, 3) := by decide +kernel
theorem dX12_count_11 : decode cX12_count 11 = .ok (.aload_n 0, 1) := by decide +kernel
theorem dX12_count_12 : decode cX12_count 12 = .ok (.getfield 7, 3) := by decide +kernel
theorem dX12_count_15 : decode cX12_count 15 = .ok (.bipush 11, 2) := by decide +kernel
theorem dX12_count_17 : decode cX12_count 17 = .ok (.iload_n 1, 1) := by decide +kernel
theorem dX12_count_18 : decode cX12_count 18 = .ok (.iadd, 1) := by decide +kernel
theorem dX12_count_19 : decode cX12_count 19 = .ok (.bipush 20, 2) := by decide +kernel
theorem dX12_count_21 : decode cX12_count 21 = .ok (.isub, 1) := by decide +kernel
theorem dX12_count_22 : decode cX12_count 22 = .ok (.iaload, 1) := by decide +kernel
theorem dX12_count_23 : decode cX12_count 23 = .ok (.ireturn, 1) := by decide +kernel
theorem dX12_count_24 : decode cX12_count 24 = .ok (.iload_n 1, 1) := by decide +kernel
theorem dX12_count_25 : decode cX12_count 25 = .ok (.tableswitch 140 0 13 #[71, 78, 86, 94, 103, 103, 103, 103, 103, 112, 117, 125, 130, 135], 71) := by decide +kernel
theorem dX12_count_96 : decode cX12_count 96 = .ok (.aload_n 0, 1) := by decide +kernel
theorem dX12_count_97 : decode cX12_count 97 = .ok (.getfield 7, 3) := by decide +kernel
theorem dX12_count_100 : decode cX12_count 100 = .ok (.iconst 0, 1) := by decide +kernel
theorem dX12_count_101 : decode cX12_count 101 = .ok (.iaload, 1) := by decide +kernel
theorem dX12_count_102 : decode cX12_count 102 = .ok (.ireturn, 1) := by decide +kernel
theorem dX12_count_103 : decode cX12_count 103 = .ok (.aload_n 0, 1) := by decide +kernel
theorem dX12_count_104 : decode cX12_count 104 = .ok (.getfield 7, 3) := by decide +kernel
theorem dX12_count_107 : decode cX12_count 107 = .ok (.bipush 26, 2) := by decide +kernel
theorem dX12_count_109 : decode cX12_count 109 = .ok (.iaload, 1) := by decide +kernel
theorem dX12_count_110 : decode cX12_count 110 = .ok (.ireturn, 1) := by decide +kernel
theorem dX12_count_111 : decode cX12_count 111 = .ok (.aload_n 0, 1) := by decide +kernel
theorem dX12_count_112 : decode cX12_count 112 = .ok (.getfield 7, 3) := by decide +kernel
theorem dX12_count_115 : decode cX12_count 115 = .ok (.bipush 63, 2) := by decide +kernel
theorem dX12_count_117 : decode cX12_count 117 = .ok (.iaload, 1) := by decide +kernel
theorem dX12_count_118 : decode cX12_count 118 = .ok (.ireturn, 1) := by decide +kernel
theorem dX12_count_119 : decode cX12_count 119 = .ok (.aload_n 0, 1) := by decide +kernel
theorem dX12_count_120 : decode cX12_count 120 = .ok (.invokevirtual 85, 3) := by decide +kernel
theorem dX12_count_123 : decode cX12_count 123 = .ok (.aload_n 0, 1) := by decide +kernel
theorem dX12_count_124 : decode cX12_count 124 = .ok (.getfield 88, 3) := by decide +kernel
theorem dX12_count_127 : decode cX12_count 127 = .ok (.ireturn, 1) := by decide +kernel
theorem dX12_count_128 : decode cX12_count 128 = .ok (.aload_n 0, 1) := by decide +kernel
theorem dX12_count_129 : decode cX12_count 129 = .ok (.getfield 7, 3) := by decide +kernel
theorem dX12_count_132 : decode cX12_count 132 = .ok (.iload_n 1, 1) := by decide +kernel
theorem dX12_count_133 : decode cX12_count 133 = .ok (.iconst 3, 1) := by decide +kernel
theorem dX12_count_134 : decode cX12_count 134 = .ok (.isub, 1) := by decide +kernel
theorem dX12_count_135 : decode cX12_count 135 = .ok (.iaload, 1) := by decide +kernel
theorem dX12_count_136 : decode cX12_count 136 = .ok (.ireturn, 1) := by decide +kernel
theorem dX12_count_137 : decode cX12_count 137 = .ok (.aload_n 0, 1) := by decide +kernel
theorem dX12_count_138 : decode cX12_count 138 = .ok (.invokevirtual 37, 3) := by decide +kernel
theorem dX12_count_141 : decode cX12_count 141 = .ok (.ireturn, 1) := by decide +kernel
theorem dX12_count_142 : decode cX12_count 142 = .ok (.aload_n 0, 1) := by decide +kernel
theorem dX12_count_143 : decode cX12_count 143 = .ok (.getfield 7, 3) := by decide +kernel
theorem dX12_count_146 : decode cX12_count 146 = .ok (.bipush 19, 2) := by decide +kernel
theorem dX12_count_148 : decode cX12_count 148 = .ok (.iaload, 1) := by decide +kernel
theorem dX12_count_149 : decode cX12_count 149 = .ok (.ireturn, 1) := by decide +kernel
theorem dX12_count_150 : decode cX12_count 150 = .ok (.aload_n 0, 1) := by decide +kernel
theorem dX12_count_151 : decode cX12_count 151 = .ok (.getfield 29, 3) := by decide +kernel
theorem dX12_count_154 : decode cX12_count 154 = .ok (.ireturn, 1) := by decide +kernel
theorem dX12_count_155 : decode cX12_count 155 = .ok (.aload_n 0, 1) := by decide +kernel
theorem dX12_count_156 : decode cX12_count 156 = .ok (.getfield 91, 3) := by decide +kernel
theorem dX12_count_159 : decode cX12_count 159 = .ok (.ireturn, 1) := by decide +kernel
theorem dX12_count_160 : decode cX12_count 160 = .ok (.aload_n 0, 1) := by decide +kernel
theorem dX12_count_161 : decode cX12_count 161 = .ok (.invokevirtual 45, 3) := by decide +kernel
theorem dX12_count_164 : decode cX12_count 164 = .ok (.ireturn, 1) := by decide +kernel
theorem dX12_count_165 : decode cX12_count 165 = .ok (.iconst (-1), 1) := by decide +kernel
theorem dX12_count_166 : decode cX12_count 166 = .ok (.ireturn, 1) := by decide +kernel
theorem dX12_account_0 : decode cX12_account 0 = .ok (.iload_n 1, 1) := by decide +kernel
theorem dX12_account_1 : decode cX12_account 1 = .ok (.iconst 0, 1) := by decide +kernel
theorem dX12_account_2 : decode cX12_account 2 = .ok (.iconst 4, 1) := by decide +kernel
theorem dX12_account_3 : decode cX12_account 3 = .ok (.invokestatic 33, 3) := by decide +kernel
theorem dX12_account_6 : decode cX12_account 6 = .ok (.ifCond .eq 15, 3) := by decide +kernel
theorem dX12_account_9 : decode cX12_account 9 = .ok (.aload_n 0, 1) := by decide +kernel
theorem dX12_account_10 : decode cX12_account 10 = .ok (.getfield 7, 3) := by decide +kernel
theorem dX12_account_13 : decode cX12_account 13 = .ok (.bipush 6, 2) := by decide +kernel
theorem dX12_account_15 : decode cX12_account 15 = .ok (.iload_n 1, 1) := by decide +kernel
theorem dX12_account_16 : decode cX12_account 16 = .ok (.iadd, 1) := by decide +kernel
theorem dX12_account_17 : decode cX12_account 17 = .ok (.iaload, 1) := by decide +kernel
theorem dX12_account_18 : decode cX12_account 18 = .ok (.goto 4, 3) := by decide +kernel
theorem dX12_account_21 : decode cX12_account 21 = .ok (.iconst (-1), 1) := by decide +kernel
theorem dX12_account_22 : decode cX12_account 22 = .ok (.ireturn, 1) := by decide +kernel
theorem dX12_mark_0 : decode cX12_mark 0 = .ok (.iload_n 1, 1) := by decide +kernel
theorem dX12_mark_1 : decode cX12_mark 1 = .ok (.iconst 0, 1) := by decide +kernel
theorem dX12_mark_2 : decode cX12_mark 2 = .ok (.aload_n 0, 1) := by decide +kernel
theorem dX12_mark_3 : decode cX12_mark 3 = .ok (.getfield 7, 3) := by decide +kernel
theorem dX12_mark_6 : decode cX12_mark 6 = .ok (.bipush 63, 2) := by decide +kernel
theorem dX12_mark_8 : decode cX12_mark 8 = .ok (.iaload, 1) := by decide +kernel
theorem dX12_mark_9 : decode cX12_mark 9 = .ok (.iconst 1, 1) := by decide +kernel
theorem dX12_mark_10 : decode cX12_mark 10 = .ok (.isub, 1) := by decide +kernel
theorem dX12_mark_11 : decode cX12_mark 11 = .ok (.invokestatic 33, 3) := by decide +kernel
theorem dX12_mark_14 : decode cX12_mark 14 = .ok (.ifCond .eq 29, 3) := by decide +kernel
theorem dX12_mark_17 : decode cX12_mark 17 = .ok (.iload_n 2, 1) := by decide +kernel
theorem dX12_mark_18 : decode cX12_mark 18 = .ok (.iconst 0, 1) := by decide +kernel
theorem dX12_mark_19 : decode cX12_mark 19 = .ok (.iconst 2, 1) := by decide +kernel
theorem dX12_mark_20 : decode cX12_mark 20 = .ok (.invokestatic 33, 3) := by decide +kernel
theorem dX12_mark_23 : decode cX12_mark 23 = .ok (.ifCond .eq 20, 3) := by decide +kernel
theorem dX12_mark_26 : decode cX12_mark 26 = .ok (.aload_n 0, 1) := by decide +kernel
theorem dX12_mark_27 : decode cX12_mark 27 = .ok (.getfield 7, 3) := by decide +kernel
theorem dX12_mark_30 : decode cX12_mark 30 = .ok (.bipush 64, 2) := by decide +kernel
theorem dX12_mark_32 : decode cX12_mark 32 = .ok (.bipush 60, 2) := by decide +kernel
theorem dX12_mark_34 : decode cX12_mark 34 = .ok (.iload_n 2, 1) := by decide +kernel
theorem dX12_mark_35 : decode cX12_mark 35 = .ok (.imul, 1) := by decide +kernel
theorem dX12_mark_36 : decode cX12_mark 36 = .ok (.iadd, 1) := by decide +kernel
theorem dX12_mark_37 : decode cX12_mark 37 = .ok (.iload_n 1, 1) := by decide +kernel
theorem dX12_mark_38 : decode cX12_mark 38 = .ok (.iadd, 1) := by decide +kernel
theorem dX12_mark_39 : decode cX12_mark 39 = .ok (.iaload, 1) := by decide +kernel
theorem dX12_mark_40 : decode cX12_mark 40 = .ok (.goto 4, 3) := by decide +kernel
theorem dX12_mark_43 : decode cX12_mark 43 = .ok (.iconst (-1), 1) := by decide +kernel
theorem dX12_mark_44 : decode cX12_mark 44 = .ok (.ireturn, 1) := by decide +kernel
theorem dX12_apart_0 : decode cX12_apart 0 = .ok (.aload_n 0, 1) := by decide +kernel
theorem dX12_apart_1 : decode cX12_apart 1 = .ok (.getfield 7, 3) := by decide +kernel
theorem dX12_apart_4 : decode cX12_apart 4 = .ok (.bipush 64, 2) := by decide +kernel
theorem dX12_apart_6 : decode cX12_apart 6 = .ok (.iload_n 1, 1) := by decide +kernel
theorem dX12_apart_7 : decode cX12_apart 7 = .ok (.iadd, 1) := by decide +kernel
theorem dX12_apart_8 : decode cX12_apart 8 = .ok (.iaload, 1) := by decide +kernel
theorem dX12_apart_9 : decode cX12_apart 9 = .ok (.aload_n 0, 1) := by decide +kernel
theorem dX12_apart_10 : decode cX12_apart 10 = .ok (.getfield 7, 3) := by decide +kernel
theorem dX12_apart_13 : decode cX12_apart 13 = .ok (.bipush 64, 2) := by decide +kernel
theorem dX12_apart_15 : decode cX12_apart 15 = .ok (.iload_n 1, 1) := by decide +kernel
theorem dX12_apart_16 : decode cX12_apart 16 = .ok (.iadd, 1) := by decide +kernel
theorem dX12_apart_17 : decode cX12_apart 17 = .ok (.iconst 1, 1) := by decide +kernel
theorem dX12_apart_18 : decode cX12_apart 18 = .ok (.isub, 1) := by decide +kernel
theorem dX12_apart_19 : decode cX12_apart 19 = .ok (.iaload, 1) := by decide +kernel
theorem dX12_apart_20 : decode cX12_apart 20 = .ok (.isub, 1) := by decide +kernel
theorem dX12_apart_21 : decode cX12_apart 21 = .ok (.ireturn, 1) := by decide +kernel
theorem dX12_parts_0 : decode cX12_parts 0 = .ok (.aload_n 0, 1) := by decide +kernel
theorem dX12_parts_1 : decode cX12_parts 1 = .ok (.iconst 0, 1) := by decide +kernel
theorem dX12_parts_2 : decode cX12_parts 2 = .ok (.putfield 88, 3) := by decide +kernel
theorem dX12_parts_5 : decode cX12_parts 5 = .ok (.iconst 0, 1) := by decide +kernel
theorem dX12_parts_6 : decode cX12_parts 6 = .ok (.istore_n 1, 1) := by decide +kernel
theorem dX12_parts_7 : decode cX12_parts 7 = .ok (.iload_n 1, 1) := by decide +kernel
theorem dX12_parts_8 : decode cX12_parts 8 = .ok (.aload_n 0, 1) := by decide +kernel
theorem dX12_parts_9 : decode cX12_parts 9 = .ok (.getfield 7, 3) := by decide +kernel
theorem dX12_parts_12 : decode cX12_parts 12 = .ok (.bipush 63, 2) := by decide +kernel
theorem dX12_parts_14 : decode cX12_parts 14 = .ok (.iaload, 1) := by decide +kernel
theorem dX12_parts_15 : decode cX12_parts 15 = .ok (.if_icmp .ge 48, 3) := by decide +kernel
theorem dX12_parts_18 : decode cX12_parts 18 = .ok (.iload_n 1, 1) := by decide +kernel
theorem dX12_parts_19 : decode cX12_parts 19 = .ok (.ifCond .eq 18, 3) := by decide +kernel
theorem dX12_parts_22 : decode cX12_parts 22 = .ok (.aload_n 0, 1) := by decide +kernel
theorem dX12_parts_23 : decode cX12_parts 23 = .ok (.iload_n 1, 1) := by decide +kernel
theorem dX12_parts_24 : decode cX12_parts 24 = .ok (.invokevirtual 94, 3) := by decide +kernel
theorem dX12_parts_27 : decode cX12_parts 27 = .ok (.aload_n 0, 1) := by decide +kernel
theorem dX12_parts_28 : decode cX12_parts 28 = .ok (.getfield 7, 3) := by decide +kernel
theorem dX12_parts_31 : decode cX12_parts 31 = .ok (.bipush 18, 2) := by decide +kernel
theorem dX12_parts_33 : decode cX12_parts 33 = .ok (.iaload, 1) := by decide +kernel
theorem dX12_parts_34 : decode cX12_parts 34 = .ok (.if_icmp .le 23, 3) := by decide +kernel
theorem dX12_parts_37 : decode cX12_parts 37 = .ok (.aload_n 0, 1) := by decide +kernel
theorem dX12_parts_38 : decode cX12_parts 38 = .ok (.getfield 26, 3) := by decide +kernel
theorem dX12_parts_41 : decode cX12_parts 41 = .ok (.aload_n 0, 1) := by decide +kernel
theorem dX12_parts_42 : decode cX12_parts 42 = .ok (.getfield 88, 3) := by decide +kernel
theorem dX12_parts_45 : decode cX12_parts 45 = .ok (.iload_n 1, 1) := by decide +kernel
theorem dX12_parts_46 : decode cX12_parts 46 = .ok (.iastore, 1) := by decide +kernel
theorem dX12_parts_47 : decode cX12_parts 47 = .ok (.aload_n 0, 1) := by decide +kernel
theorem dX12_parts_48 : decode cX12_parts 48 = .ok (.dup, 1) := by decide +kernel
theorem dX12_parts_49 : decode cX12_parts 49 = .ok (.getfield 88, 3) := by decide +kernel
theorem dX12_parts_52 : decode cX12_parts 52 = .ok (.iconst 1, 1) := by decide +kernel
theorem dX12_parts_53 : decode cX12_parts 53 = .ok (.iadd, 1) := by decide +kernel
theorem dX12_parts_54 : decode cX12_parts 54 = .ok (.putfield 88, 3) := by decide +kernel
theorem dX12_parts_57 : decode cX12_parts 57 = .ok (.iinc 1 1, 3) := by decide +kernel
theorem dX12_parts_60 : decode cX12_parts 60 = .ok (.goto (-53), 3) := by decide +kernel
theorem dX12_parts_63 : decode cX12_parts 63 = .ok (.aload_n 0, 1) := by decide +kernel
theorem dX12_parts_64 : decode cX12_parts 64 = .ok (.getfield 26, 3) := by decide +kernel
theorem dX12_parts_67 : decode cX12_parts 67 = .ok (.aload_n 0, 1) := by decide +kernel
theorem dX12_parts_68 : decode cX12_parts 68 = .ok (.getfield 88, 3) := by decide +kernel
theorem dX12_parts_71 : decode cX12_parts 71 = .ok (.aload_n 0, 1) := by decide +kernel
theorem dX12_parts_72 : decode cX12_parts 72 = .ok (.getfield 7, 3) := by decide +kernel
theorem dX12_parts_75 : decode cX12_parts 75 = .ok (.bipush 63, 2) := by decide +kernel
theorem dX12_parts_77 : decode cX12_parts 77 = .ok (.iaload, 1) := by decide +kernel
theorem dX12_parts_78 : decode cX12_parts 78 = .ok (.iastore, 1) := by decide +kernel
theorem dX12_parts_79 : decode cX12_parts 79 = .ok (.return_, 1) := by decide +kernel
theorem dX12_lossOf_0 : decode cX12_lossOf 0 = .ok (.iconst 0, 1) := by decide +kernel
theorem dX12_lossOf_1 : decode cX12_lossOf 1 = .ok (.istore_n 2, 1) := by decide +kernel
theorem dX12_lossOf_2 : decode cX12_lossOf 2 = .ok (.aload_n 0, 1) := by decide +kernel
theorem dX12_lossOf_3 : decode cX12_lossOf 3 = .ok (.getfield 26, 3) := by decide +kernel
theorem dX12_lossOf_6 : decode cX12_lossOf 6 = .ok (.iload_n 1, 1) := by decide +kernel
theorem dX12_lossOf_7 : decode cX12_lossOf 7 = .ok (.iaload, 1) := by decide +kernel
theorem dX12_lossOf_8 : decode cX12_lossOf 8 = .ok (.iconst 1, 1) := by decide +kernel
theorem dX12_lossOf_9 : decode cX12_lossOf 9 = .ok (.iadd, 1) := by decide +kernel
theorem dX12_lossOf_10 : decode cX12_lossOf 10 = .ok (.istore_n 3, 1) := by decide +kernel
theorem dX12_lossOf_11 : decode cX12_lossOf 11 = .ok (.iload_n 3, 1) := by decide +kernel
theorem dX12_lossOf_12 : decode cX12_lossOf 12 = .ok (.aload_n 0, 1) := by decide +kernel
theorem dX12_lossOf_13 : decode cX12_lossOf 13 = .ok (.getfield 26, 3) := by decide +kernel
theorem dX12_lossOf_16 : decode cX12_lossOf 16 = .ok (.iload_n 1, 1) := by decide +kernel
theorem dX12_lossOf_17 : decode cX12_lossOf 17 = .ok (.iconst 1, 1) := by decide +kernel
theorem dX12_lossOf_18 : decode cX12_lossOf 18 = .ok (.iadd, 1) := by decide +kernel
theorem dX12_lossOf_19 : decode cX12_lossOf 19 = .ok (.iaload, 1) := by decide +kernel
theorem dX12_lossOf_20 : decode cX12_lossOf 20 = .ok (.if_icmp .ge 33, 3) := by decide +kernel
theorem dX12_lossOf_23 : decode cX12_lossOf 23 = .ok (.iload_n 2, 1) := by decide +kernel
theorem dX12_lossOf_24 : decode cX12_lossOf 24 = .ok (.aload_n 0, 1) := by decide +kernel
theorem dX12_lossOf_25 : decode cX12_lossOf 25 = .ok (.getfield 7, 3) := by decide +kernel
theorem dX12_lossOf_28 : decode cX12_lossOf 28 = .ok (.bipush 11, 2) := by decide +kernel
theorem dX12_lossOf_30 : decode cX12_lossOf 30 = .ok (.iaload, 1) := by decide +kernel
theorem dX12_lossOf_31 : decode cX12_lossOf 31 = .ok (.aload_n 0, 1) := by decide +kernel
theorem dX12_lossOf_32 : decode cX12_lossOf 32 = .ok (.getfield 7, 3) := by decide +kernel
theorem dX12_lossOf_35 : decode cX12_lossOf 35 = .ok (.bipush 12, 2) := by decide +kernel
theorem dX12_lossOf_37 : decode cX12_lossOf 37 = .ok (.iaload, 1) := by decide +kernel
theorem dX12_lossOf_38 : decode cX12_lossOf 38 = .ok (.imul, 1) := by decide +kernel
theorem dX12_lossOf_39 : decode cX12_lossOf 39 = .ok (.aload_n 0, 1) := by decide +kernel
theorem dX12_lossOf_40 : decode cX12_lossOf 40 = .ok (.iload_n 3, 1) := by decide +kernel
theorem dX12_lossOf_41 : decode cX12_lossOf 41 = .ok (.invokevirtual 94, 3) := by decide +kernel
theorem dX12_lossOf_44 : decode cX12_lossOf 44 = .ok (.idiv, 1) := by decide +kernel
theorem dX12_lossOf_45 : decode cX12_lossOf 45 = .ok (.iadd, 1) := by decide +kernel
theorem dX12_lossOf_46 : decode cX12_lossOf 46 = .ok (.istore_n 2, 1) := by decide +kernel
theorem dX12_lossOf_47 : decode cX12_lossOf 47 = .ok (.iinc 3 1, 3) := by decide +kernel
theorem dX12_lossOf_50 : decode cX12_lossOf 50 = .ok (.goto (-39), 3) := by decide +kernel
theorem dX12_lossOf_53 : decode cX12_lossOf 53 = .ok (.iload_n 2, 1) := by decide +kernel
theorem dX12_lossOf_54 : decode cX12_lossOf 54 = .ok (.ireturn, 1) := by decide +kernel
theorem dX12_amountOf_0 : decode cX12_amountOf 0 = .ok (.aload_n 0, 1) := by decide +kernel
theorem dX12_amountOf_1 : decode cX12_amountOf 1 = .ok (.getfield 26, 3) := by decide +kernel
theorem dX12_amountOf_4 : decode cX12_amountOf 4 = .ok (.iload_n 1, 1) := by decide +kernel
theorem dX12_amountOf_5 : decode cX12_amountOf 5 = .ok (.iconst 1, 1) := by decide +kernel
theorem dX12_amountOf_6 : decode cX12_amountOf 6 = .ok (.iadd, 1) := by decide +kernel
theorem dX12_amountOf_7 : decode cX12_amountOf 7 = .ok (.iaload, 1) := by decide +kernel
theorem dX12_amountOf_8 : decode cX12_amountOf 8 = .ok (.aload_n 0, 1) := by decide +kernel
theorem dX12_amountOf_9 : decode cX12_amountOf 9 = .ok (.getfield 26, 3) := by decide +kernel
theorem dX12_amountOf_12 : decode cX12_amountOf 12 = .ok (.iload_n 1, 1) := by decide +kernel
theorem dX12_amountOf_13 : decode cX12_amountOf 13 = .ok (.iaload, 1) := by decide +kernel
theorem dX12_amountOf_14 : decode cX12_amountOf 14 = .ok (.isub, 1) := by decide +kernel
theorem dX12_amountOf_15 : decode cX12_amountOf 15 = .ok (.aload_n 0, 1) := by decide +kernel
theorem dX12_amountOf_16 : decode cX12_amountOf 16 = .ok (.getfield 7, 3) := by decide +kernel
theorem dX12_amountOf_19 : decode cX12_amountOf 19 = .ok (.bipush 11, 2) := by decide +kernel
theorem dX12_amountOf_21 : decode cX12_amountOf 21 = .ok (.iaload, 1) := by decide +kernel
theorem dX12_amountOf_22 : decode cX12_amountOf 22 = .ok (.imul, 1) := by decide +kernel
theorem dX12_amountOf_23 : decode cX12_amountOf 23 = .ok (.ireturn, 1) := by decide +kernel
theorem dX12_peakOf_0 : decode cX12_peakOf 0 = .ok (.iconst 0, 1) := by decide +kernel
theorem dX12_peakOf_1 : decode cX12_peakOf 1 = .ok (.istore_n 2, 1) := by decide +kernel
theorem dX12_peakOf_2 : decode cX12_peakOf 2 = .ok (.aload_n 0, 1) := by decide +kernel
theorem dX12_peakOf_3 : decode cX12_peakOf 3 = .ok (.getfield 26, 3) := by decide +kernel
theorem dX12_peakOf_6 : decode cX12_peakOf 6 = .ok (.iload_n 1, 1) := by decide +kernel
theorem dX12_peakOf_7 : decode cX12_peakOf 7 = .ok (.iaload, 1) := by decide +kernel
theorem dX12_peakOf_8 : decode cX12_peakOf 8 = .ok (.istore_n 3, 1) := by decide +kernel
theorem dX12_peakOf_9 : decode cX12_peakOf 9 = .ok (.iload_n 3, 1) := by decide +kernel
theorem dX12_peakOf_10 : decode cX12_peakOf 10 = .ok (.aload_n 0, 1) := by decide +kernel
theorem dX12_peakOf_11 : decode cX12_peakOf 11 = .ok (.getfield 26, 3) := by decide +kernel
theorem dX12_peakOf_14 : decode cX12_peakOf 14 = .ok (.iload_n 1, 1) := by decide +kernel
theorem dX12_peakOf_15 : decode cX12_peakOf 15 = .ok (.iconst 1, 1) := by decide +kernel
theorem dX12_peakOf_16 : decode cX12_peakOf 16 = .ok (.iadd, 1) := by decide +kernel
theorem dX12_peakOf_17 : decode cX12_peakOf 17 = .ok (.iaload, 1) := by decide +kernel
theorem dX12_peakOf_18 : decode cX12_peakOf 18 = .ok (.if_icmp .ge 82, 3) := by decide +kernel
theorem dX12_peakOf_21 : decode cX12_peakOf 21 = .ok (.iconst 0, 1) := by decide +kernel
theorem dX12_peakOf_22 : decode cX12_peakOf 22 = .ok (.istore 4, 2) := by decide +kernel
theorem dX12_peakOf_24 : decode cX12_peakOf 24 = .ok (.iload_n 3, 1) := by decide +kernel
theorem dX12_peakOf_25 : decode cX12_peakOf 25 = .ok (.istore 5, 2) := by decide +kernel
theorem dX12_peakOf_27 : decode cX12_peakOf 27 = .ok (.iload 5, 2) := by decide +kernel
theorem dX12_peakOf_29 : decode cX12_peakOf 29 = .ok (.aload_n 0, 1) := by decide +kernel
theorem dX12_peakOf_30 : decode cX12_peakOf 30 = .ok (.getfield 26, 3) := by decide +kernel
theorem dX12_peakOf_33 : decode cX12_peakOf 33 = .ok (.iload_n 1, 1) := by decide +kernel
theorem dX12_peakOf_34 : decode cX12_peakOf 34 = .ok (.iconst 1, 1) := by decide +kernel
theorem dX12_peakOf_35 : decode cX12_peakOf 35 = .ok (.iadd, 1) := by decide +kernel
theorem dX12_peakOf_36 : decode cX12_peakOf 36 = .ok (.iaload, 1) := by decide +kernel
theorem dX12_peakOf_37 : decode cX12_peakOf 37 = .ok (.if_icmp .ge 44, 3) := by decide +kernel
theorem dX12_peakOf_40 : decode cX12_peakOf 40 = .ok (.iload 4, 2) := by decide +kernel
theorem dX12_peakOf_42 : decode cX12_peakOf 42 = .ok (.aload_n 0, 1) := by decide +kernel
theorem dX12_peakOf_43 : decode cX12_peakOf 43 = .ok (.getfield 7, 3) := by decide +kernel
theorem dX12_peakOf_46 : decode cX12_peakOf 46 = .ok (.bipush 64, 2) := by decide +kernel
theorem dX12_peakOf_48 : decode cX12_peakOf 48 = .ok (.iload 5, 2) := by decide +kernel
theorem dX12_peakOf_50 : decode cX12_peakOf 50 = .ok (.iadd, 1) := by decide +kernel
theorem dX12_peakOf_51 : decode cX12_peakOf 51 = .ok (.iaload, 1) := by decide +kernel
theorem dX12_peakOf_52 : decode cX12_peakOf 52 = .ok (.aload_n 0, 1) := by decide +kernel
theorem dX12_peakOf_53 : decode cX12_peakOf 53 = .ok (.getfield 7, 3) := by decide +kernel
theorem dX12_peakOf_56 : decode cX12_peakOf 56 = .ok (.bipush 64, 2) := by decide +kernel
theorem dX12_peakOf_58 : decode cX12_peakOf 58 = .ok (.iload_n 3, 1) := by decide +kernel
theorem dX12_peakOf_59 : decode cX12_peakOf 59 = .ok (.iadd, 1) := by decide +kernel
theorem dX12_peakOf_60 : decode cX12_peakOf 60 = .ok (.iaload, 1) := by decide +kernel
theorem dX12_peakOf_61 : decode cX12_peakOf 61 = .ok (.isub, 1) := by decide +kernel
theorem dX12_peakOf_62 : decode cX12_peakOf 62 = .ok (.bipush 30, 2) := by decide +kernel
theorem dX12_peakOf_64 : decode cX12_peakOf 64 = .ok (.if_icmp .ge 7, 3) := by decide +kernel
theorem dX12_peakOf_67 : decode cX12_peakOf 67 = .ok (.iconst 1, 1) := by decide +kernel
theorem dX12_peakOf_68 : decode cX12_peakOf 68 = .ok (.goto 4, 3) := by decide +kernel
theorem dX12_peakOf_71 : decode cX12_peakOf 71 = .ok (.iconst 0, 1) := by decide +kernel
theorem dX12_peakOf_72 : decode cX12_peakOf 72 = .ok (.iadd, 1) := by decide +kernel
theorem dX12_peakOf_73 : decode cX12_peakOf 73 = .ok (.istore 4, 2) := by decide +kernel
theorem dX12_peakOf_75 : decode cX12_peakOf 75 = .ok (.iinc 5 1, 3) := by decide +kernel
theorem dX12_peakOf_78 : decode cX12_peakOf 78 = .ok (.goto (-51), 3) := by decide +kernel
theorem dX12_peakOf_81 : decode cX12_peakOf 81 = .ok (.iload 4, 2) := by decide +kernel
theorem dX12_peakOf_83 : decode cX12_peakOf 83 = .ok (.iload_n 2, 1) := by decide +kernel
theorem dX12_peakOf_84 : decode cX12_peakOf 84 = .ok (.if_icmp .le 8, 3) := by decide +kernel
theorem dX12_peakOf_87 : decode cX12_peakOf 87 = .ok (.iload 4, 2) := by decide +kernel
theorem dX12_peakOf_89 : decode cX12_peakOf 89 = .ok (.goto 4, 3) := by decide +kernel
theorem dX12_peakOf_92 : decode cX12_peakOf 92 = .ok (.iload_n 2, 1) := by decide +kernel
theorem dX12_peakOf_93 : decode cX12_peakOf 93 = .ok (.istore_n 2, 1) := by decide +kernel
theorem dX12_peakOf_94 : decode cX12_peakOf 94 = .ok (.iinc 3 1, 3) := by decide +kernel
theorem dX12_peakOf_97 : decode cX12_peakOf 97 = .ok (.goto (-88), 3) := by decide +kernel
theorem dX12_peakOf_100 : decode cX12_peakOf 100 = .ok (.iload_n 2, 1) := by decide +kernel
theorem dX12_peakOf_101 : decode cX12_peakOf 101 = .ok (.ireturn, 1) := by decide +kernel
theorem dX12_storm_0 : decode cX12_storm 0 = .ok (.aload_n 0, 1) := by decide +kernel
theorem dX12_storm_1 : decode cX12_storm 1 = .ok (.invokevirtual 85, 3) := by decide +kernel
theorem dX12_storm_4 : decode cX12_storm 4 = .ok (.iload_n 1, 1) := by decide +kernel
theorem dX12_storm_5 : decode cX12_storm 5 = .ok (.iconst 0, 1) := by decide +kernel
theorem dX12_storm_6 : decode cX12_storm 6 = .ok (.aload_n 0, 1) := by decide +kernel
theorem dX12_storm_7 : decode cX12_storm 7 = .ok (.getfield 88, 3) := by decide +kernel
theorem dX12_storm_10 : decode cX12_storm 10 = .ok (.iconst 1, 1) := by decide +kernel
end
section
theorem dX12_storm_11 : decode cX12_storm 11 = .ok (.isub, 1) := by decide +kernel
theorem dX12_storm_12 : decode cX12_storm 12 = .ok (.invokestatic 33, 3) := by decide +kernel
theorem dX12_storm_15 : decode cX12_storm 15 = .ok (.ifCond .eq 12, 3) := by decide +kernel
theorem dX12_storm_18 : decode cX12_storm 18 = .ok (.iload_n 2, 1) := by decide +kernel
theorem dX12_storm_19 : decode cX12_storm 19 = .ok (.iconst 0, 1) := by decide +kernel
theorem dX12_storm_20 : decode cX12_storm 20 = .ok (.iconst 5, 1) := by decide +kernel
theorem dX12_storm_21 : decode cX12_storm 21 = .ok (.invokestatic 33, 3) := by decide +kernel
theorem dX12_storm_24 : decode cX12_storm 24 = .ok (.ifCond .ne 5, 3) := by decide +kernel
theorem dX12_storm_27 : decode cX12_storm 27 = .ok (.iconst (-1), 1) := by decide +kernel
theorem dX12_storm_28 : decode cX12_storm 28 = .ok (.ireturn, 1) := by decide +kernel
theorem dX12_storm_29 : decode cX12_storm 29 = .ok (.aload_n 0, 1) := by decide +kernel
theorem dX12_storm_30 : decode cX12_storm 30 = .ok (.getfield 26, 3) := by decide +kernel
theorem dX12_storm_33 : decode cX12_storm 33 = .ok (.iload_n 1, 1) := by decide +kernel
theorem dX12_storm_34 : decode cX12_storm 34 = .ok (.iconst 1, 1) := by decide +kernel
theorem dX12_storm_35 : decode cX12_storm 35 = .ok (.iadd, 1) := by decide +kernel
theorem dX12_storm_36 : decode cX12_storm 36 = .ok (.iaload, 1) := by decide +kernel
theorem dX12_storm_37 : decode cX12_storm 37 = .ok (.iconst 1, 1) := by decide +kernel
theorem dX12_storm_38 : decode cX12_storm 38 = .ok (.isub, 1) := by decide +kernel
theorem dX12_storm_39 : decode cX12_storm 39 = .ok (.istore_n 3, 1) := by decide +kernel
theorem dX12_storm_40 : decode cX12_storm 40 = .ok (.iload_n 2, 1) := by decide +kernel
theorem dX12_storm_41 : decode cX12_storm 41 = .ok (.tableswitch 90 0 4 #[35, 42, 53, 78, 84], 35) := by decide +kernel
theorem dX12_storm_76 : decode cX12_storm 76 = .ok (.aload_n 0, 1) := by decide +kernel
theorem dX12_storm_77 : decode cX12_storm 77 = .ok (.getfield 26, 3) := by decide +kernel
theorem dX12_storm_80 : decode cX12_storm 80 = .ok (.iload_n 1, 1) := by decide +kernel
theorem dX12_storm_81 : decode cX12_storm 81 = .ok (.iaload, 1) := by decide +kernel
theorem dX12_storm_82 : decode cX12_storm 82 = .ok (.ireturn, 1) := by decide +kernel
theorem dX12_storm_83 : decode cX12_storm 83 = .ok (.iload_n 3, 1) := by decide +kernel
theorem dX12_storm_84 : decode cX12_storm 84 = .ok (.iconst 1, 1) := by decide +kernel
theorem dX12_storm_85 : decode cX12_storm 85 = .ok (.iadd, 1) := by decide +kernel
theorem dX12_storm_86 : decode cX12_storm 86 = .ok (.aload_n 0, 1) := by decide +kernel
theorem dX12_storm_87 : decode cX12_storm 87 = .ok (.getfield 26, 3) := by decide +kernel
theorem dX12_storm_90 : decode cX12_storm 90 = .ok (.iload_n 1, 1) := by decide +kernel
theorem dX12_storm_91 : decode cX12_storm 91 = .ok (.iaload, 1) := by decide +kernel
theorem dX12_storm_92 : decode cX12_storm 92 = .ok (.isub, 1) := by decide +kernel
theorem dX12_storm_93 : decode cX12_storm 93 = .ok (.ireturn, 1) := by decide +kernel
theorem dX12_storm_94 : decode cX12_storm 94 = .ok (.aload_n 0, 1) := by decide +kernel
theorem dX12_storm_95 : decode cX12_storm 95 = .ok (.getfield 7, 3) := by decide +kernel
theorem dX12_storm_98 : decode cX12_storm 98 = .ok (.bipush 64, 2) := by decide +kernel
theorem dX12_storm_100 : decode cX12_storm 100 = .ok (.iload_n 3, 1) := by decide +kernel
theorem dX12_storm_101 : decode cX12_storm 101 = .ok (.iadd, 1) := by decide +kernel
theorem dX12_storm_102 : decode cX12_storm 102 = .ok (.iaload, 1) := by decide +kernel
theorem dX12_storm_103 : decode cX12_storm 103 = .ok (.aload_n 0, 1) := by decide +kernel
theorem dX12_storm_104 : decode cX12_storm 104 = .ok (.getfield 7, 3) := by decide +kernel
theorem dX12_storm_107 : decode cX12_storm 107 = .ok (.bipush 64, 2) := by decide +kernel
theorem dX12_storm_109 : decode cX12_storm 109 = .ok (.aload_n 0, 1) := by decide +kernel
theorem dX12_storm_110 : decode cX12_storm 110 = .ok (.getfield 26, 3) := by decide +kernel
theorem dX12_storm_113 : decode cX12_storm 113 = .ok (.iload_n 1, 1) := by decide +kernel
theorem dX12_storm_114 : decode cX12_storm 114 = .ok (.iaload, 1) := by decide +kernel
theorem dX12_storm_115 : decode cX12_storm 115 = .ok (.iadd, 1) := by decide +kernel
theorem dX12_storm_116 : decode cX12_storm 116 = .ok (.iaload, 1) := by decide +kernel
theorem dX12_storm_117 : decode cX12_storm 117 = .ok (.isub, 1) := by decide +kernel
theorem dX12_storm_118 : decode cX12_storm 118 = .ok (.ireturn, 1) := by decide +kernel
theorem dX12_storm_119 : decode cX12_storm 119 = .ok (.aload_n 0, 1) := by decide +kernel
theorem dX12_storm_120 : decode cX12_storm 120 = .ok (.iload_n 1, 1) := by decide +kernel
theorem dX12_storm_121 : decode cX12_storm 121 = .ok (.invokevirtual 97, 3) := by decide +kernel
theorem dX12_storm_124 : decode cX12_storm 124 = .ok (.ireturn, 1) := by decide +kernel
theorem dX12_storm_125 : decode cX12_storm 125 = .ok (.aload_n 0, 1) := by decide +kernel
theorem dX12_storm_126 : decode cX12_storm 126 = .ok (.iload_n 1, 1) := by decide +kernel
theorem dX12_storm_127 : decode cX12_storm 127 = .ok (.invokevirtual 100, 3) := by decide +kernel
theorem dX12_storm_130 : decode cX12_storm 130 = .ok (.ireturn, 1) := by decide +kernel
theorem dX12_storm_131 : decode cX12_storm 131 = .ok (.aload_n 0, 1) := by decide +kernel
theorem dX12_storm_132 : decode cX12_storm 132 = .ok (.iload_n 1, 1) := by decide +kernel
theorem dX12_storm_133 : decode cX12_storm 133 = .ok (.invokevirtual 103, 3) := by decide +kernel
theorem dX12_storm_136 : decode cX12_storm 136 = .ok (.ireturn, 1) := by decide +kernel
theorem dX12_greatestStorm_0 : decode cX12_greatestStorm 0 = .ok (.aload_n 0, 1) := by decide +kernel
theorem dX12_greatestStorm_1 : decode cX12_greatestStorm 1 = .ok (.invokevirtual 85, 3) := by decide +kernel
theorem dX12_greatestStorm_4 : decode cX12_greatestStorm 4 = .ok (.bipush (-4), 2) := by decide +kernel
theorem dX12_greatestStorm_6 : decode cX12_greatestStorm 6 = .ok (.istore_n 1, 1) := by decide +kernel
theorem dX12_greatestStorm_7 : decode cX12_greatestStorm 7 = .ok (.iconst (-1), 1) := by decide +kernel
theorem dX12_greatestStorm_8 : decode cX12_greatestStorm 8 = .ok (.istore_n 2, 1) := by decide +kernel
theorem dX12_greatestStorm_9 : decode cX12_greatestStorm 9 = .ok (.iconst 0, 1) := by decide +kernel
theorem dX12_greatestStorm_10 : decode cX12_greatestStorm 10 = .ok (.istore_n 3, 1) := by decide +kernel
theorem dX12_greatestStorm_11 : decode cX12_greatestStorm 11 = .ok (.iload_n 3, 1) := by decide +kernel
theorem dX12_greatestStorm_12 : decode cX12_greatestStorm 12 = .ok (.aload_n 0, 1) := by decide +kernel
theorem dX12_greatestStorm_13 : decode cX12_greatestStorm 13 = .ok (.getfield 88, 3) := by decide +kernel
theorem dX12_greatestStorm_16 : decode cX12_greatestStorm 16 = .ok (.if_icmp .ge 47, 3) := by decide +kernel
theorem dX12_greatestStorm_19 : decode cX12_greatestStorm 19 = .ok (.aload_n 0, 1) := by decide +kernel
theorem dX12_greatestStorm_20 : decode cX12_greatestStorm 20 = .ok (.iload_n 3, 1) := by decide +kernel
theorem dX12_greatestStorm_21 : decode cX12_greatestStorm 21 = .ok (.invokevirtual 97, 3) := by decide +kernel
theorem dX12_greatestStorm_24 : decode cX12_greatestStorm 24 = .ok (.aload_n 0, 1) := by decide +kernel
theorem dX12_greatestStorm_25 : decode cX12_greatestStorm 25 = .ok (.iload_n 3, 1) := by decide +kernel
theorem dX12_greatestStorm_26 : decode cX12_greatestStorm 26 = .ok (.invokevirtual 100, 3) := by decide +kernel
theorem dX12_greatestStorm_29 : decode cX12_greatestStorm 29 = .ok (.iadd, 1) := by decide +kernel
theorem dX12_greatestStorm_30 : decode cX12_greatestStorm 30 = .ok (.istore 4, 2) := by decide +kernel
theorem dX12_greatestStorm_32 : decode cX12_greatestStorm 32 = .ok (.iload 4, 2) := by decide +kernel
theorem dX12_greatestStorm_34 : decode cX12_greatestStorm 34 = .ok (.iload_n 2, 1) := by decide +kernel
theorem dX12_greatestStorm_35 : decode cX12_greatestStorm 35 = .ok (.if_icmp .le 7, 3) := by decide +kernel
theorem dX12_greatestStorm_38 : decode cX12_greatestStorm 38 = .ok (.iload_n 3, 1) := by decide +kernel
theorem dX12_greatestStorm_39 : decode cX12_greatestStorm 39 = .ok (.goto 4, 3) := by decide +kernel
theorem dX12_greatestStorm_42 : decode cX12_greatestStorm 42 = .ok (.iload_n 1, 1) := by decide +kernel
theorem dX12_greatestStorm_43 : decode cX12_greatestStorm 43 = .ok (.istore_n 1, 1) := by decide +kernel
theorem dX12_greatestStorm_44 : decode cX12_greatestStorm 44 = .ok (.iload 4, 2) := by decide +kernel
theorem dX12_greatestStorm_46 : decode cX12_greatestStorm 46 = .ok (.iload_n 2, 1) := by decide +kernel
theorem dX12_greatestStorm_47 : decode cX12_greatestStorm 47 = .ok (.if_icmp .le 8, 3) := by decide +kernel
theorem dX12_greatestStorm_50 : decode cX12_greatestStorm 50 = .ok (.iload 4, 2) := by decide +kernel
theorem dX12_greatestStorm_52 : decode cX12_greatestStorm 52 = .ok (.goto 4, 3) := by decide +kernel
theorem dX12_greatestStorm_55 : decode cX12_greatestStorm 55 = .ok (.iload_n 2, 1) := by decide +kernel
theorem dX12_greatestStorm_56 : decode cX12_greatestStorm 56 = .ok (.istore_n 2, 1) := by decide +kernel
theorem dX12_greatestStorm_57 : decode cX12_greatestStorm 57 = .ok (.iinc 3 1, 3) := by decide +kernel
theorem dX12_greatestStorm_60 : decode cX12_greatestStorm 60 = .ok (.goto (-49), 3) := by decide +kernel
theorem dX12_greatestStorm_63 : decode cX12_greatestStorm 63 = .ok (.iload_n 1, 1) := by decide +kernel
theorem dX12_greatestStorm_64 : decode cX12_greatestStorm 64 = .ok (.ireturn, 1) := by decide +kernel
theorem dX12_gapForOne_0 : decode cX12_gapForOne 0 = .ok (.iconst 1, 1) := by decide +kernel
theorem dX12_gapForOne_1 : decode cX12_gapForOne 1 = .ok (.istore_n 1, 1) := by decide +kernel
theorem dX12_gapForOne_2 : decode cX12_gapForOne 2 = .ok (.iconst 1, 1) := by decide +kernel
theorem dX12_gapForOne_3 : decode cX12_gapForOne 3 = .ok (.istore_n 2, 1) := by decide +kernel
theorem dX12_gapForOne_4 : decode cX12_gapForOne 4 = .ok (.iload_n 2, 1) := by decide +kernel
theorem dX12_gapForOne_5 : decode cX12_gapForOne 5 = .ok (.aload_n 0, 1) := by decide +kernel
theorem dX12_gapForOne_6 : decode cX12_gapForOne 6 = .ok (.getfield 7, 3) := by decide +kernel
theorem dX12_gapForOne_9 : decode cX12_gapForOne 9 = .ok (.bipush 63, 2) := by decide +kernel
theorem dX12_gapForOne_11 : decode cX12_gapForOne 11 = .ok (.iaload, 1) := by decide +kernel
theorem dX12_gapForOne_12 : decode cX12_gapForOne 12 = .ok (.if_icmp .ge 28, 3) := by decide +kernel
theorem dX12_gapForOne_15 : decode cX12_gapForOne 15 = .ok (.aload_n 0, 1) := by decide +kernel
theorem dX12_gapForOne_16 : decode cX12_gapForOne 16 = .ok (.iload_n 2, 1) := by decide +kernel
theorem dX12_gapForOne_17 : decode cX12_gapForOne 17 = .ok (.invokevirtual 94, 3) := by decide +kernel
theorem dX12_gapForOne_20 : decode cX12_gapForOne 20 = .ok (.iload_n 1, 1) := by decide +kernel
theorem dX12_gapForOne_21 : decode cX12_gapForOne 21 = .ok (.if_icmp .le 11, 3) := by decide +kernel
theorem dX12_gapForOne_24 : decode cX12_gapForOne 24 = .ok (.aload_n 0, 1) := by decide +kernel
theorem dX12_gapForOne_25 : decode cX12_gapForOne 25 = .ok (.iload_n 2, 1) := by decide +kernel
theorem dX12_gapForOne_26 : decode cX12_gapForOne 26 = .ok (.invokevirtual 94, 3) := by decide +kernel
theorem dX12_gapForOne_29 : decode cX12_gapForOne 29 = .ok (.goto 4, 3) := by decide +kernel
theorem dX12_gapForOne_32 : decode cX12_gapForOne 32 = .ok (.iload_n 1, 1) := by decide +kernel
theorem dX12_gapForOne_33 : decode cX12_gapForOne 33 = .ok (.istore_n 1, 1) := by decide +kernel
theorem dX12_gapForOne_34 : decode cX12_gapForOne 34 = .ok (.iinc 2 1, 3) := by decide +kernel
theorem dX12_gapForOne_37 : decode cX12_gapForOne 37 = .ok (.goto (-33), 3) := by decide +kernel
theorem dX12_gapForOne_40 : decode cX12_gapForOne 40 = .ok (.aload_n 0, 1) := by decide +kernel
theorem dX12_gapForOne_41 : decode cX12_gapForOne 41 = .ok (.getfield 7, 3) := by decide +kernel
theorem dX12_gapForOne_44 : decode cX12_gapForOne 44 = .ok (.bipush 63, 2) := by decide +kernel
theorem dX12_gapForOne_46 : decode cX12_gapForOne 46 = .ok (.iaload, 1) := by decide +kernel
theorem dX12_gapForOne_47 : decode cX12_gapForOne 47 = .ok (.ifCond .eq 10, 3) := by decide +kernel
theorem dX12_gapForOne_50 : decode cX12_gapForOne 50 = .ok (.iload_n 1, 1) := by decide +kernel
theorem dX12_gapForOne_51 : decode cX12_gapForOne 51 = .ok (.sipush 1000, 3) := by decide +kernel
theorem dX12_gapForOne_54 : decode cX12_gapForOne 54 = .ok (.if_icmp .le 8, 3) := by decide +kernel
theorem dX12_gapForOne_57 : decode cX12_gapForOne 57 = .ok (.bipush (-4), 2) := by decide +kernel
theorem dX12_gapForOne_59 : decode cX12_gapForOne 59 = .ok (.goto 4, 3) := by decide +kernel
theorem dX12_gapForOne_62 : decode cX12_gapForOne 62 = .ok (.iload_n 1, 1) := by decide +kernel
theorem dX12_gapForOne_63 : decode cX12_gapForOne 63 = .ok (.ireturn, 1) := by decide +kernel
theorem dX12_ifRun_0 : decode cX12_ifRun 0 = .ok (.iload_n 1, 1) := by decide +kernel
theorem dX12_ifRun_1 : decode cX12_ifRun 1 = .ok (.iconst 1, 1) := by decide +kernel
theorem dX12_ifRun_2 : decode cX12_ifRun 2 = .ok (.sipush 1000, 3) := by decide +kernel
theorem dX12_ifRun_5 : decode cX12_ifRun 5 = .ok (.invokestatic 33, 3) := by decide +kernel
theorem dX12_ifRun_8 : decode cX12_ifRun 8 = .ok (.ifCond .eq 13, 3) := by decide +kernel
theorem dX12_ifRun_11 : decode cX12_ifRun 11 = .ok (.iload_n 2, 1) := by decide +kernel
theorem dX12_ifRun_12 : decode cX12_ifRun 12 = .ok (.iconst 0, 1) := by decide +kernel
theorem dX12_ifRun_13 : decode cX12_ifRun 13 = .ok (.bipush 7, 2) := by decide +kernel
theorem dX12_ifRun_15 : decode cX12_ifRun 15 = .ok (.invokestatic 33, 3) := by decide +kernel
theorem dX12_ifRun_18 : decode cX12_ifRun 18 = .ok (.ifCond .ne 5, 3) := by decide +kernel
theorem dX12_ifRun_21 : decode cX12_ifRun 21 = .ok (.iconst (-1), 1) := by decide +kernel
theorem dX12_ifRun_22 : decode cX12_ifRun 22 = .ok (.ireturn, 1) := by decide +kernel
theorem dX12_ifRun_23 : decode cX12_ifRun 23 = .ok (.aload_n 0, 1) := by decide +kernel
theorem dX12_ifRun_24 : decode cX12_ifRun 24 = .ok (.getfield 7, 3) := by decide +kernel
theorem dX12_ifRun_27 : decode cX12_ifRun 27 = .ok (.iconst 0, 1) := by decide +kernel
theorem dX12_ifRun_28 : decode cX12_ifRun 28 = .ok (.iaload, 1) := by decide +kernel
theorem dX12_ifRun_29 : decode cX12_ifRun 29 = .ok (.iload_n 1, 1) := by decide +kernel
theorem dX12_ifRun_30 : decode cX12_ifRun 30 = .ok (.iadd, 1) := by decide +kernel
theorem dX12_ifRun_31 : decode cX12_ifRun 31 = .ok (.sipush 5000, 3) := by decide +kernel
theorem dX12_ifRun_34 : decode cX12_ifRun 34 = .ok (.if_icmp .le 6, 3) := by decide +kernel
theorem dX12_ifRun_37 : decode cX12_ifRun 37 = .ok (.bipush (-3), 2) := by decide +kernel
theorem dX12_ifRun_39 : decode cX12_ifRun 39 = .ok (.ireturn, 1) := by decide +kernel
theorem dX12_ifRun_40 : decode cX12_ifRun 40 = .ok (.aload_n 0, 1) := by decide +kernel
theorem dX12_ifRun_41 : decode cX12_ifRun 41 = .ok (.invokevirtual 106, 3) := by decide +kernel
theorem dX12_ifRun_44 : decode cX12_ifRun 44 = .ok (.aload_n 0, 1) := by decide +kernel
theorem dX12_ifRun_45 : decode cX12_ifRun 45 = .ok (.iload_n 1, 1) := by decide +kernel
theorem dX12_ifRun_46 : decode cX12_ifRun 46 = .ok (.invokevirtual 74, 3) := by decide +kernel
theorem dX12_ifRun_49 : decode cX12_ifRun 49 = .ok (.istore_n 3, 1) := by decide +kernel
theorem dX12_ifRun_50 : decode cX12_ifRun 50 = .ok (.iload_n 2, 1) := by decide +kernel
theorem dX12_ifRun_51 : decode cX12_ifRun 51 = .ok (.ifCond .ne 7, 3) := by decide +kernel
theorem dX12_ifRun_54 : decode cX12_ifRun 54 = .ok (.iload_n 3, 1) := by decide +kernel
theorem dX12_ifRun_55 : decode cX12_ifRun 55 = .ok (.goto 51, 3) := by decide +kernel
theorem dX12_ifRun_58 : decode cX12_ifRun 58 = .ok (.iload_n 2, 1) := by decide +kernel
theorem dX12_ifRun_59 : decode cX12_ifRun 59 = .ok (.iconst 5, 1) := by decide +kernel
theorem dX12_ifRun_60 : decode cX12_ifRun 60 = .ok (.if_icmp .ge 25, 3) := by decide +kernel
theorem dX12_ifRun_63 : decode cX12_ifRun 63 = .ok (.aload_n 0, 1) := by decide +kernel
theorem dX12_ifRun_64 : decode cX12_ifRun 64 = .ok (.getfield 7, 3) := by decide +kernel
theorem dX12_ifRun_67 : decode cX12_ifRun 67 = .ok (.bipush 6, 2) := by decide +kernel
theorem dX12_ifRun_69 : decode cX12_ifRun 69 = .ok (.iload_n 2, 1) := by decide +kernel
theorem dX12_ifRun_70 : decode cX12_ifRun 70 = .ok (.iadd, 1) := by decide +kernel
theorem dX12_ifRun_71 : decode cX12_ifRun 71 = .ok (.iaload, 1) := by decide +kernel
theorem dX12_ifRun_72 : decode cX12_ifRun 72 = .ok (.aload_n 0, 1) := by decide +kernel
theorem dX12_ifRun_73 : decode cX12_ifRun 73 = .ok (.getfield 16, 3) := by decide +kernel
theorem dX12_ifRun_76 : decode cX12_ifRun 76 = .ok (.bipush 6, 2) := by decide +kernel
theorem dX12_ifRun_78 : decode cX12_ifRun 78 = .ok (.iload_n 2, 1) := by decide +kernel
theorem dX12_ifRun_79 : decode cX12_ifRun 79 = .ok (.iadd, 1) := by decide +kernel
theorem dX12_ifRun_80 : decode cX12_ifRun 80 = .ok (.iaload, 1) := by decide +kernel
theorem dX12_ifRun_81 : decode cX12_ifRun 81 = .ok (.isub, 1) := by decide +kernel
theorem dX12_ifRun_82 : decode cX12_ifRun 82 = .ok (.goto 24, 3) := by decide +kernel
theorem dX12_ifRun_85 : decode cX12_ifRun 85 = .ok (.iload_n 2, 1) := by decide +kernel
theorem dX12_ifRun_86 : decode cX12_ifRun 86 = .ok (.bipush 7, 2) := by decide +kernel
theorem dX12_ifRun_88 : decode cX12_ifRun 88 = .ok (.if_icmp .ge 14, 3) := by decide +kernel
theorem dX12_ifRun_91 : decode cX12_ifRun 91 = .ok (.aload_n 0, 1) := by decide +kernel
theorem dX12_ifRun_92 : decode cX12_ifRun 92 = .ok (.getfield 7, 3) := by decide +kernel
theorem dX12_ifRun_95 : decode cX12_ifRun 95 = .ok (.iload_n 2, 1) := by decide +kernel
theorem dX12_ifRun_96 : decode cX12_ifRun 96 = .ok (.iconst 4, 1) := by decide +kernel
theorem dX12_ifRun_97 : decode cX12_ifRun 97 = .ok (.isub, 1) := by decide +kernel
theorem dX12_ifRun_98 : decode cX12_ifRun 98 = .ok (.iaload, 1) := by decide +kernel
theorem dX12_ifRun_99 : decode cX12_ifRun 99 = .ok (.goto 7, 3) := by decide +kernel
theorem dX12_ifRun_102 : decode cX12_ifRun 102 = .ok (.aload_n 0, 1) := by decide +kernel
theorem dX12_ifRun_103 : decode cX12_ifRun 103 = .ok (.invokevirtual 37, 3) := by decide +kernel
theorem dX12_ifRun_106 : decode cX12_ifRun 106 = .ok (.istore 4, 2) := by decide +kernel
theorem dX12_ifRun_108 : decode cX12_ifRun 108 = .ok (.aload_n 0, 1) := by decide +kernel
theorem dX12_ifRun_109 : decode cX12_ifRun 109 = .ok (.invokevirtual 109, 3) := by decide +kernel
theorem dX12_ifRun_112 : decode cX12_ifRun 112 = .ok (.iload 4, 2) := by decide +kernel
theorem dX12_ifRun_114 : decode cX12_ifRun 114 = .ok (.ireturn, 1) := by decide +kernel
theorem dX12_capacityFor_0 : decode cX12_capacityFor 0 = .ok (.iload_n 1, 1) := by decide +kernel
theorem dX12_capacityFor_1 : decode cX12_capacityFor 1 = .ok (.iconst 1, 1) := by decide +kernel
theorem dX12_capacityFor_2 : decode cX12_capacityFor 2 = .ok (.sipush 1000, 3) := by decide +kernel
theorem dX12_capacityFor_5 : decode cX12_capacityFor 5 = .ok (.invokestatic 33, 3) := by decide +kernel
theorem dX12_capacityFor_8 : decode cX12_capacityFor 8 = .ok (.ifCond .eq 13, 3) := by decide +kernel
theorem dX12_capacityFor_11 : decode cX12_capacityFor 11 = .ok (.iload_n 2, 1) := by decide +kernel
theorem dX12_capacityFor_12 : decode cX12_capacityFor 12 = .ok (.iconst 0, 1) := by decide +kernel
theorem dX12_capacityFor_13 : decode cX12_capacityFor 13 = .ok (.ldc 112, 2) := by decide +kernel
theorem dX12_capacityFor_15 : decode cX12_capacityFor 15 = .ok (.invokestatic 33, 3) := by decide +kernel
theorem dX12_capacityFor_18 : decode cX12_capacityFor 18 = .ok (.ifCond .ne 5, 3) := by decide +kernel
theorem dX12_capacityFor_21 : decode cX12_capacityFor 21 = .ok (.iconst (-1), 1) := by decide +kernel
theorem dX12_capacityFor_22 : decode cX12_capacityFor 22 = .ok (.ireturn, 1) := by decide +kernel
theorem dX12_capacityFor_23 : decode cX12_capacityFor 23 = .ok (.aload_n 0, 1) := by decide +kernel
theorem dX12_capacityFor_24 : decode cX12_capacityFor 24 = .ok (.getfield 7, 3) := by decide +kernel
theorem dX12_capacityFor_27 : decode cX12_capacityFor 27 = .ok (.iconst 0, 1) := by decide +kernel
theorem dX12_capacityFor_28 : decode cX12_capacityFor 28 = .ok (.iaload, 1) := by decide +kernel
theorem dX12_capacityFor_29 : decode cX12_capacityFor 29 = .ok (.iload_n 1, 1) := by decide +kernel
theorem dX12_capacityFor_30 : decode cX12_capacityFor 30 = .ok (.iadd, 1) := by decide +kernel
theorem dX12_capacityFor_31 : decode cX12_capacityFor 31 = .ok (.sipush 5000, 3) := by decide +kernel
theorem dX12_capacityFor_34 : decode cX12_capacityFor 34 = .ok (.if_icmp .le 6, 3) := by decide +kernel
theorem dX12_capacityFor_37 : decode cX12_capacityFor 37 = .ok (.bipush (-3), 2) := by decide +kernel
theorem dX12_capacityFor_39 : decode cX12_capacityFor 39 = .ok (.ireturn, 1) := by decide +kernel
theorem dX12_capacityFor_40 : decode cX12_capacityFor 40 = .ok (.aload_n 0, 1) := by decide +kernel
theorem dX12_capacityFor_41 : decode cX12_capacityFor 41 = .ok (.invokevirtual 106, 3) := by decide +kernel
theorem dX12_capacityFor_44 : decode cX12_capacityFor 44 = .ok (.bipush (-4), 2) := by decide +kernel
theorem dX12_capacityFor_46 : decode cX12_capacityFor 46 = .ok (.istore_n 3, 1) := by decide +kernel
theorem dX12_capacityFor_47 : decode cX12_capacityFor 47 = .ok (.bipush 20, 2) := by decide +kernel
theorem dX12_capacityFor_49 : decode cX12_capacityFor 49 = .ok (.istore 4, 2) := by decide +kernel
theorem dX12_capacityFor_51 : decode cX12_capacityFor 51 = .ok (.iload 4, 2) := by decide +kernel
theorem dX12_capacityFor_53 : decode cX12_capacityFor 53 = .ok (.sipush 500, 3) := by decide +kernel
theorem dX12_capacityFor_56 : decode cX12_capacityFor 56 = .ok (.if_icmp .gt 80, 3) := by decide +kernel
theorem dX12_capacityFor_59 : decode cX12_capacityFor 59 = .ok (.iload_n 3, 1) := by decide +kernel
theorem dX12_capacityFor_60 : decode cX12_capacityFor 60 = .ok (.bipush (-4), 2) := by decide +kernel
theorem dX12_capacityFor_62 : decode cX12_capacityFor 62 = .ok (.if_icmp .ne 74, 3) := by decide +kernel
theorem dX12_capacityFor_65 : decode cX12_capacityFor 65 = .ok (.aload_n 0, 1) := by decide +kernel
theorem dX12_capacityFor_66 : decode cX12_capacityFor 66 = .ok (.getfield 7, 3) := by decide +kernel
theorem dX12_capacityFor_69 : decode cX12_capacityFor 69 = .ok (.bipush 11, 2) := by decide +kernel
theorem dX12_capacityFor_71 : decode cX12_capacityFor 71 = .ok (.iload 4, 2) := by decide +kernel
theorem dX12_capacityFor_73 : decode cX12_capacityFor 73 = .ok (.iastore, 1) := by decide +kernel
theorem dX12_capacityFor_74 : decode cX12_capacityFor 74 = .ok (.aload_n 0, 1) := by decide +kernel
theorem dX12_capacityFor_75 : decode cX12_capacityFor 75 = .ok (.iload_n 1, 1) := by decide +kernel
theorem dX12_capacityFor_76 : decode cX12_capacityFor 76 = .ok (.invokevirtual 74, 3) := by decide +kernel
theorem dX12_capacityFor_79 : decode cX12_capacityFor 79 = .ok (.pop, 1) := by decide +kernel
theorem dX12_capacityFor_80 : decode cX12_capacityFor 80 = .ok (.aload_n 0, 1) := by decide +kernel
theorem dX12_capacityFor_81 : decode cX12_capacityFor 81 = .ok (.getfield 7, 3) := by decide +kernel
theorem dX12_capacityFor_84 : decode cX12_capacityFor 84 = .ok (.bipush 9, 2) := by decide +kernel
theorem dX12_capacityFor_86 : decode cX12_capacityFor 86 = .ok (.iaload, 1) := by decide +kernel
theorem dX12_capacityFor_87 : decode cX12_capacityFor 87 = .ok (.aload_n 0, 1) := by decide +kernel
theorem dX12_capacityFor_88 : decode cX12_capacityFor 88 = .ok (.getfield 16, 3) := by decide +kernel
theorem dX12_capacityFor_91 : decode cX12_capacityFor 91 = .ok (.bipush 9, 2) := by decide +kernel
theorem dX12_capacityFor_93 : decode cX12_capacityFor 93 = .ok (.iaload, 1) := by decide +kernel
theorem dX12_capacityFor_94 : decode cX12_capacityFor 94 = .ok (.isub, 1) := by decide +kernel
theorem dX12_capacityFor_95 : decode cX12_capacityFor 95 = .ok (.aload_n 0, 1) := by decide +kernel
theorem dX12_capacityFor_96 : decode cX12_capacityFor 96 = .ok (.getfield 7, 3) := by decide +kernel
theorem dX12_capacityFor_99 : decode cX12_capacityFor 99 = .ok (.bipush 8, 2) := by decide +kernel
theorem dX12_capacityFor_101 : decode cX12_capacityFor 101 = .ok (.iaload, 1) := by decide +kernel
theorem dX12_capacityFor_102 : decode cX12_capacityFor 102 = .ok (.iadd, 1) := by decide +kernel
theorem dX12_capacityFor_103 : decode cX12_capacityFor 103 = .ok (.aload_n 0, 1) := by decide +kernel
theorem dX12_capacityFor_104 : decode cX12_capacityFor 104 = .ok (.getfield 16, 3) := by decide +kernel
theorem dX12_capacityFor_107 : decode cX12_capacityFor 107 = .ok (.bipush 8, 2) := by decide +kernel
theorem dX12_capacityFor_109 : decode cX12_capacityFor 109 = .ok (.iaload, 1) := by decide +kernel
theorem dX12_capacityFor_110 : decode cX12_capacityFor 110 = .ok (.isub, 1) := by decide +kernel
theorem dX12_capacityFor_111 : decode cX12_capacityFor 111 = .ok (.istore 5, 2) := by decide +kernel
theorem dX12_capacityFor_113 : decode cX12_capacityFor 113 = .ok (.iload 5, 2) := by decide +kernel
theorem dX12_capacityFor_115 : decode cX12_capacityFor 115 = .ok (.iload_n 2, 1) := by decide +kernel
theorem dX12_capacityFor_116 : decode cX12_capacityFor 116 = .ok (.if_icmp .gt 8, 3) := by decide +kernel
theorem dX12_capacityFor_119 : decode cX12_capacityFor 119 = .ok (.iload 4, 2) := by decide +kernel
theorem dX12_capacityFor_121 : decode cX12_capacityFor 121 = .ok (.goto 4, 3) := by decide +kernel
theorem dX12_capacityFor_124 : decode cX12_capacityFor 124 = .ok (.iload_n 3, 1) := by decide +kernel
theorem dX12_capacityFor_125 : decode cX12_capacityFor 125 = .ok (.istore_n 3, 1) := by decide +kernel
theorem dX12_capacityFor_126 : decode cX12_capacityFor 126 = .ok (.aload_n 0, 1) := by decide +kernel
theorem dX12_capacityFor_127 : decode cX12_capacityFor 127 = .ok (.invokevirtual 109, 3) := by decide +kernel
theorem dX12_capacityFor_130 : decode cX12_capacityFor 130 = .ok (.iinc 4 1, 3) := by decide +kernel
theorem dX12_capacityFor_133 : decode cX12_capacityFor 133 = .ok (.goto (-82), 3) := by decide +kernel
theorem dX12_capacityFor_136 : decode cX12_capacityFor 136 = .ok (.iload_n 3, 1) := by decide +kernel
theorem dX12_capacityFor_137 : decode cX12_capacityFor 137 = .ok (.ireturn, 1) := by decide +kernel
theorem dX12_untilStop_0 : decode cX12_untilStop 0 = .ok (.aload_n 0, 1) := by decide +kernel
theorem dX12_untilStop_1 : decode cX12_untilStop 1 = .ok (.getfield 7, 3) := by decide +kernel
theorem dX12_untilStop_4 : decode cX12_untilStop 4 = .ok (.iconst 4, 1) := by decide +kernel
theorem dX12_untilStop_5 : decode cX12_untilStop 5 = .ok (.iaload, 1) := by decide +kernel
theorem dX12_untilStop_6 : decode cX12_untilStop 6 = .ok (.ireturn, 1) := by decide +kernel
theorem dX12_gearsFor_0 : decode cX12_gearsFor 0 = .ok (.iload_n 1, 1) := by decide +kernel
theorem dX12_gearsFor_1 : decode cX12_gearsFor 1 = .ok (.iconst 1, 1) := by decide +kernel
theorem dX12_gearsFor_2 : decode cX12_gearsFor 2 = .ok (.ldc 112, 2) := by decide +kernel
theorem dX12_gearsFor_4 : decode cX12_gearsFor 4 = .ok (.invokestatic 33, 3) := by decide +kernel
theorem dX12_gearsFor_7 : decode cX12_gearsFor 7 = .ok (.ifCond .ne 5, 3) := by decide +kernel
theorem dX12_gearsFor_10 : decode cX12_gearsFor 10 = .ok (.iconst (-1), 1) := by decide +kernel
theorem dX12_gearsFor_11 : decode cX12_gearsFor 11 = .ok (.ireturn, 1) := by decide +kernel
theorem dX12_gearsFor_12 : decode cX12_gearsFor 12 = .ok (.bipush 8, 2) := by decide +kernel
theorem dX12_gearsFor_14 : decode cX12_gearsFor 14 = .ok (.istore_n 2, 1) := by decide +kernel
theorem dX12_gearsFor_15 : decode cX12_gearsFor 15 = .ok (.iload_n 2, 1) := by decide +kernel
theorem dX12_gearsFor_16 : decode cX12_gearsFor 16 = .ok (.bipush 120, 2) := by decide +kernel
theorem dX12_gearsFor_18 : decode cX12_gearsFor 18 = .ok (.if_icmp .gt 47, 3) := by decide +kernel
theorem dX12_gearsFor_21 : decode cX12_gearsFor 21 = .ok (.bipush 8, 2) := by decide +kernel
theorem dX12_gearsFor_23 : decode cX12_gearsFor 23 = .ok (.istore_n 3, 1) := by decide +kernel
theorem dX12_gearsFor_24 : decode cX12_gearsFor 24 = .ok (.iload_n 3, 1) := by decide +kernel
theorem dX12_gearsFor_25 : decode cX12_gearsFor 25 = .ok (.bipush 120, 2) := by decide +kernel
theorem dX12_gearsFor_27 : decode cX12_gearsFor 27 = .ok (.if_icmp .gt 32, 3) := by decide +kernel
theorem dX12_gearsFor_30 : decode cX12_gearsFor 30 = .ok (.aload_n 0, 1) := by decide +kernel
theorem dX12_gearsFor_31 : decode cX12_gearsFor 31 = .ok (.getfield 7, 3) := by decide +kernel
theorem dX12_gearsFor_34 : decode cX12_gearsFor 34 = .ok (.bipush 16, 2) := by decide +kernel
theorem dX12_gearsFor_36 : decode cX12_gearsFor 36 = .ok (.iaload, 1) := by decide +kernel
theorem dX12_gearsFor_37 : decode cX12_gearsFor 37 = .ok (.iload_n 3, 1) := by decide +kernel
theorem dX12_gearsFor_38 : decode cX12_gearsFor 38 = .ok (.imul, 1) := by decide +kernel
theorem dX12_gearsFor_39 : decode cX12_gearsFor 39 = .ok (.iload_n 1, 1) := by decide +kernel
theorem dX12_gearsFor_40 : decode cX12_gearsFor 40 = .ok (.iload_n 2, 1) := by decide +kernel
theorem dX12_gearsFor_41 : decode cX12_gearsFor 41 = .ok (.imul, 1) := by decide +kernel
theorem dX12_gearsFor_42 : decode cX12_gearsFor 42 = .ok (.if_icmp .ne 11, 3) := by decide +kernel
theorem dX12_gearsFor_45 : decode cX12_gearsFor 45 = .ok (.sipush 1000, 3) := by decide +kernel
theorem dX12_gearsFor_48 : decode cX12_gearsFor 48 = .ok (.iload_n 2, 1) := by decide +kernel
theorem dX12_gearsFor_49 : decode cX12_gearsFor 49 = .ok (.imul, 1) := by decide +kernel
theorem dX12_gearsFor_50 : decode cX12_gearsFor 50 = .ok (.iload_n 3, 1) := by decide +kernel
theorem dX12_gearsFor_51 : decode cX12_gearsFor 51 = .ok (.iadd, 1) := by decide +kernel
theorem dX12_gearsFor_52 : decode cX12_gearsFor 52 = .ok (.ireturn, 1) := by decide +kernel
theorem dX12_gearsFor_53 : decode cX12_gearsFor 53 = .ok (.iinc 3 1, 3) := by decide +kernel
theorem dX12_gearsFor_56 : decode cX12_gearsFor 56 = .ok (.goto (-32), 3) := by decide +kernel
theorem dX12_gearsFor_59 : decode cX12_gearsFor 59 = .ok (.iinc 2 1, 3) := by decide +kernel
theorem dX12_gearsFor_62 : decode cX12_gearsFor 62 = .ok (.goto (-47), 3) := by decide +kernel
theorem dX12_gearsFor_65 : decode cX12_gearsFor 65 = .ok (.bipush (-4), 2) := by decide +kernel
theorem dX12_gearsFor_67 : decode cX12_gearsFor 67 = .ok (.ireturn, 1) := by decide +kernel
theorem dX12_type_0 : decode cX12_type 0 = .ok (.iload_n 1, 1) := by decide +kernel
theorem dX12_type_1 : decode cX12_type 1 = .ok (.bipush 32, 2) := by decide +kernel
theorem dX12_type_3 : decode cX12_type 3 = .ok (.bipush 126, 2) := by decide +kernel
theorem dX12_type_5 : decode cX12_type 5 = .ok (.invokestatic 33, 3) := by decide +kernel
theorem dX12_type_8 : decode cX12_type 8 = .ok (.ifCond .ne 5, 3) := by decide +kernel
theorem dX12_type_11 : decode cX12_type 11 = .ok (.iconst (-1), 1) := by decide +kernel
theorem dX12_type_12 : decode cX12_type 12 = .ok (.ireturn, 1) := by decide +kernel
theorem dX12_type_13 : decode cX12_type 13 = .ok (.aload_n 0, 1) := by decide +kernel
theorem dX12_type_14 : decode cX12_type 14 = .ok (.getfield 91, 3) := by decide +kernel
theorem dX12_type_17 : decode cX12_type 17 = .ok (.bipush 100, 2) := by decide +kernel
theorem dX12_type_19 : decode cX12_type 19 = .ok (.if_icmp .ne 6, 3) := by decide +kernel
theorem dX12_type_22 : decode cX12_type 22 = .ok (.bipush (-3), 2) := by decide +kernel
theorem dX12_type_24 : decode cX12_type 24 = .ok (.ireturn, 1) := by decide +kernel
theorem dX12_type_25 : decode cX12_type 25 = .ok (.aload_n 0, 1) := by decide +kernel
theorem dX12_type_26 : decode cX12_type 26 = .ok (.getfield 19, 3) := by decide +kernel
theorem dX12_type_29 : decode cX12_type 29 = .ok (.aload_n 0, 1) := by decide +kernel
theorem dX12_type_30 : decode cX12_type 30 = .ok (.getfield 91, 3) := by decide +kernel
theorem dX12_type_33 : decode cX12_type 33 = .ok (.iload_n 1, 1) := by decide +kernel
theorem dX12_type_34 : decode cX12_type 34 = .ok (.i2c, 1) := by decide +kernel
theorem dX12_type_35 : decode cX12_type 35 = .ok (.castore, 1) := by decide +kernel
theorem dX12_type_36 : decode cX12_type 36 = .ok (.aload_n 0, 1) := by decide +kernel
theorem dX12_type_37 : decode cX12_type 37 = .ok (.dup, 1) := by decide +kernel
theorem dX12_type_38 : decode cX12_type 38 = .ok (.getfield 91, 3) := by decide +kernel
theorem dX12_type_41 : decode cX12_type 41 = .ok (.iconst 1, 1) := by decide +kernel
theorem dX12_type_42 : decode cX12_type 42 = .ok (.iadd, 1) := by decide +kernel
theorem dX12_type_43 : decode cX12_type 43 = .ok (.putfield 91, 3) := by decide +kernel
theorem dX12_type_46 : decode cX12_type 46 = .ok (.aload_n 0, 1) := by decide +kernel
theorem dX12_type_47 : decode cX12_type 47 = .ok (.getfield 91, 3) := by decide +kernel
theorem dX12_type_50 : decode cX12_type 50 = .ok (.ireturn, 1) := by decide +kernel
theorem dX12_clearText_0 : decode cX12_clearText 0 = .ok (.aload_n 0, 1) := by decide +kernel
theorem dX12_clearText_1 : decode cX12_clearText 1 = .ok (.getfield 91, 3) := by decide +kernel
theorem dX12_clearText_4 : decode cX12_clearText 4 = .ok (.istore_n 1, 1) := by decide +kernel
theorem dX12_clearText_5 : decode cX12_clearText 5 = .ok (.aload_n 0, 1) := by decide +kernel
theorem dX12_clearText_6 : decode cX12_clearText 6 = .ok (.iconst 0, 1) := by decide +kernel
theorem dX12_clearText_7 : decode cX12_clearText 7 = .ok (.putfield 91, 3) := by decide +kernel
theorem dX12_clearText_10 : decode cX12_clearText 10 = .ok (.iload_n 1, 1) := by decide +kernel
theorem dX12_clearText_11 : decode cX12_clearText 11 = .ok (.ireturn, 1) := by decide +kernel
theorem dX12_takes_0 : decode cX12_takes 0 = .ok (.aload_n 0, 1) := by decide +kernel
theorem dX12_takes_1 : decode cX12_takes 1 = .ok (.getfield 113, 3) := by decide +kernel
theorem dX12_takes_4 : decode cX12_takes 4 = .ok (.istore_n 3, 1) := by decide +kernel
theorem dX12_takes_5 : decode cX12_takes 5 = .ok (.iconst 0, 1) := by decide +kernel
theorem dX12_takes_6 : decode cX12_takes 6 = .ok (.istore 4, 2) := by decide +kernel
theorem dX12_takes_8 : decode cX12_takes 8 = .ok (.aload_n 0, 1) := by decide +kernel
theorem dX12_takes_9 : decode cX12_takes 9 = .ok (.getfield 113, 3) := by decide +kernel
theorem dX12_takes_12 : decode cX12_takes 12 = .ok (.aload_n 0, 1) := by decide +kernel
theorem dX12_takes_13 : decode cX12_takes 13 = .ok (.getfield 91, 3) := by decide +kernel
theorem dX12_takes_16 : decode cX12_takes 16 = .ok (.if_icmp .ge 65, 3) := by decide +kernel
theorem dX12_takes_19 : decode cX12_takes 19 = .ok (.aload_n 0, 1) := by decide +kernel
theorem dX12_takes_20 : decode cX12_takes 20 = .ok (.getfield 113, 3) := by decide +kernel
theorem dX12_takes_23 : decode cX12_takes 23 = .ok (.iload_n 3, 1) := by decide +kernel
theorem dX12_takes_24 : decode cX12_takes 24 = .ok (.iconst 4, 1) := by decide +kernel
theorem dX12_takes_25 : decode cX12_takes 25 = .ok (.iadd, 1) := by decide +kernel
theorem dX12_takes_26 : decode cX12_takes 26 = .ok (.if_icmp .ge 55, 3) := by decide +kernel
theorem dX12_takes_29 : decode cX12_takes 29 = .ok (.aload_n 0, 1) := by decide +kernel
theorem dX12_takes_30 : decode cX12_takes 30 = .ok (.getfield 19, 3) := by decide +kernel
theorem dX12_takes_33 : decode cX12_takes 33 = .ok (.aload_n 0, 1) := by decide +kernel
theorem dX12_takes_34 : decode cX12_takes 34 = .ok (.getfield 113, 3) := by decide +kernel
theorem dX12_takes_37 : decode cX12_takes 37 = .ok (.caload, 1) := by decide +kernel
theorem dX12_takes_38 : decode cX12_takes 38 = .ok (.bipush 48, 2) := by decide +kernel
theorem dX12_takes_40 : decode cX12_takes 40 = .ok (.bipush 57, 2) := by decide +kernel
theorem dX12_takes_42 : decode cX12_takes 42 = .ok (.invokestatic 33, 3) := by decide +kernel
theorem dX12_takes_45 : decode cX12_takes 45 = .ok (.ifCond .eq 36, 3) := by decide +kernel
theorem dX12_takes_48 : decode cX12_takes 48 = .ok (.bipush 10, 2) := by decide +kernel
theorem dX12_takes_50 : decode cX12_takes 50 = .ok (.iload 4, 2) := by decide +kernel
theorem dX12_takes_52 : decode cX12_takes 52 = .ok (.imul, 1) := by decide +kernel
theorem dX12_takes_53 : decode cX12_takes 53 = .ok (.aload_n 0, 1) := by decide +kernel
theorem dX12_takes_54 : decode cX12_takes 54 = .ok (.getfield 19, 3) := by decide +kernel
theorem dX12_takes_57 : decode cX12_takes 57 = .ok (.aload_n 0, 1) := by decide +kernel
theorem dX12_takes_58 : decode cX12_takes 58 = .ok (.getfield 113, 3) := by decide +kernel
theorem dX12_takes_61 : decode cX12_takes 61 = .ok (.caload, 1) := by decide +kernel
theorem dX12_takes_62 : decode cX12_takes 62 = .ok (.iadd, 1) := by decide +kernel
theorem dX12_takes_63 : decode cX12_takes 63 = .ok (.bipush 48, 2) := by decide +kernel
theorem dX12_takes_65 : decode cX12_takes 65 = .ok (.isub, 1) := by decide +kernel
theorem dX12_takes_66 : decode cX12_takes 66 = .ok (.istore 4, 2) := by decide +kernel
theorem dX12_takes_68 : decode cX12_takes 68 = .ok (.aload_n 0, 1) := by decide +kernel
theorem dX12_takes_69 : decode cX12_takes 69 = .ok (.dup, 1) := by decide +kernel
theorem dX12_takes_70 : decode cX12_takes 70 = .ok (.getfield 113, 3) := by decide +kernel
theorem dX12_takes_73 : decode cX12_takes 73 = .ok (.iconst 1, 1) := by decide +kernel
theorem dX12_takes_74 : decode cX12_takes 74 = .ok (.iadd, 1) := by decide +kernel
theorem dX12_takes_75 : decode cX12_takes 75 = .ok (.putfield 113, 3) := by decide +kernel
theorem dX12_takes_78 : decode cX12_takes 78 = .ok (.goto (-70), 3) := by decide +kernel
theorem dX12_takes_81 : decode cX12_takes 81 = .ok (.aload_n 0, 1) := by decide +kernel
theorem dX12_takes_82 : decode cX12_takes 82 = .ok (.getfield 23, 3) := by decide +kernel
theorem dX12_takes_85 : decode cX12_takes 85 = .ok (.iload_n 1, 1) := by decide +kernel
theorem dX12_takes_86 : decode cX12_takes 86 = .ok (.iload 4, 2) := by decide +kernel
theorem dX12_takes_88 : decode cX12_takes 88 = .ok (.iastore, 1) := by decide +kernel
theorem dX12_takes_89 : decode cX12_takes 89 = .ok (.aload_n 0, 1) := by decide +kernel
theorem dX12_takes_90 : decode cX12_takes 90 = .ok (.getfield 113, 3) := by decide +kernel
theorem dX12_takes_93 : decode cX12_takes 93 = .ok (.aload_n 0, 1) := by decide +kernel
theorem dX12_takes_94 : decode cX12_takes 94 = .ok (.getfield 91, 3) := by decide +kernel
theorem dX12_takes_97 : decode cX12_takes 97 = .ok (.if_icmp .ge 20, 3) := by decide +kernel
theorem dX12_takes_100 : decode cX12_takes 100 = .ok (.aload_n 0, 1) := by decide +kernel
theorem dX12_takes_101 : decode cX12_takes 101 = .ok (.getfield 19, 3) := by decide +kernel
theorem dX12_takes_104 : decode cX12_takes 104 = .ok (.aload_n 0, 1) := by decide +kernel
theorem dX12_takes_105 : decode cX12_takes 105 = .ok (.getfield 113, 3) := by decide +kernel
theorem dX12_takes_108 : decode cX12_takes 108 = .ok (.caload, 1) := by decide +kernel
theorem dX12_takes_109 : decode cX12_takes 109 = .ok (.iload_n 2, 1) := by decide +kernel
theorem dX12_takes_110 : decode cX12_takes 110 = .ok (.if_icmp .ne 7, 3) := by decide +kernel
theorem dX12_takes_113 : decode cX12_takes 113 = .ok (.iconst 1, 1) := by decide +kernel
theorem dX12_takes_114 : decode cX12_takes 114 = .ok (.goto 4, 3) := by decide +kernel
theorem dX12_takes_117 : decode cX12_takes 117 = .ok (.iconst 0, 1) := by decide +kernel
theorem dX12_takes_118 : decode cX12_takes 118 = .ok (.istore 5, 2) := by decide +kernel
theorem dX12_takes_120 : decode cX12_takes 120 = .ok (.aload_n 0, 1) := by decide +kernel
theorem dX12_takes_121 : decode cX12_takes 121 = .ok (.aload_n 0, 1) := by decide +kernel
theorem dX12_takes_122 : decode cX12_takes 122 = .ok (.getfield 113, 3) := by decide +kernel
theorem dX12_takes_125 : decode cX12_takes 125 = .ok (.iload_n 3, 1) := by decide +kernel
theorem dX12_takes_126 : decode cX12_takes 126 = .ok (.if_icmp .ne 7, 3) := by decide +kernel
theorem dX12_takes_129 : decode cX12_takes 129 = .ok (.iconst 1, 1) := by decide +kernel
theorem dX12_takes_130 : decode cX12_takes 130 = .ok (.goto 13, 3) := by decide +kernel
theorem dX12_takes_133 : decode cX12_takes 133 = .ok (.iload 5, 2) := by decide +kernel
theorem dX12_takes_135 : decode cX12_takes 135 = .ok (.ifCond .eq 7, 3) := by decide +kernel
theorem dX12_takes_138 : decode cX12_takes 138 = .ok (.iconst 0, 1) := by decide +kernel
theorem dX12_takes_139 : decode cX12_takes 139 = .ok (.goto 4, 3) := by decide +kernel
theorem dX12_takes_142 : decode cX12_takes 142 = .ok (.iconst 2, 1) := by decide +kernel
theorem dX12_takes_143 : decode cX12_takes 143 = .ok (.putfield 116, 3) := by decide +kernel
theorem dX12_takes_146 : decode cX12_takes 146 = .ok (.aload_n 0, 1) := by decide +kernel
theorem dX12_takes_147 : decode cX12_takes 147 = .ok (.dup, 1) := by decide +kernel
theorem dX12_takes_148 : decode cX12_takes 148 = .ok (.getfield 113, 3) := by decide +kernel
theorem dX12_takes_151 : decode cX12_takes 151 = .ok (.iconst 1, 1) := by decide +kernel
theorem dX12_takes_152 : decode cX12_takes 152 = .ok (.iadd, 1) := by decide +kernel
theorem dX12_takes_153 : decode cX12_takes 153 = .ok (.putfield 113, 3) := by decide +kernel
theorem dX12_takes_156 : decode cX12_takes 156 = .ok (.aload_n 0, 1) := by decide +kernel
theorem dX12_takes_157 : decode cX12_takes 157 = .ok (.getfield 116, 3) := by decide +kernel
theorem dX12_takes_160 : decode cX12_takes 160 = .ok (.ifCond .ne 7, 3) := by decide +kernel
theorem dX12_takes_163 : decode cX12_takes 163 = .ok (.iconst 1, 1) := by decide +kernel
theorem dX12_takes_164 : decode cX12_takes 164 = .ok (.goto 4, 3) := by decide +kernel
theorem dX12_takes_167 : decode cX12_takes 167 = .ok (.iconst 0, 1) := by decide +kernel
theorem dX12_takes_168 : decode cX12_takes 168 = .ok (.ireturn, 1) := by decide +kernel
theorem dX12_readsShower_0 : decode cX12_readsShower 0 = .ok (.iconst 3, 1) := by decide +kernel
theorem dX12_readsShower_1 : decode cX12_readsShower 1 = .ok (.aload_n 0, 1) := by decide +kernel
theorem dX12_readsShower_2 : decode cX12_readsShower 2 = .ok (.getfield 119, 3) := by decide +kernel
theorem dX12_readsShower_5 : decode cX12_readsShower 5 = .ok (.imul, 1) := by decide +kernel
theorem dX12_readsShower_6 : decode cX12_readsShower 6 = .ok (.istore_n 1, 1) := by decide +kernel
theorem dX12_readsShower_7 : decode cX12_readsShower 7 = .ok (.aload_n 0, 1) := by decide +kernel
theorem dX12_readsShower_8 : decode cX12_readsShower 8 = .ok (.iload_n 1, 1) := by decide +kernel
theorem dX12_readsShower_9 : decode cX12_readsShower 9 = .ok (.bipush 43, 2) := by decide +kernel
theorem dX12_readsShower_11 : decode cX12_readsShower 11 = .ok (.invokevirtual 122, 3) := by decide +kernel
theorem dX12_readsShower_14 : decode cX12_readsShower 14 = .ok (.ifCond .eq 27, 3) := by decide +kernel
theorem dX12_readsShower_17 : decode cX12_readsShower 17 = .ok (.aload_n 0, 1) := by decide +kernel
theorem dX12_readsShower_18 : decode cX12_readsShower 18 = .ok (.iload_n 1, 1) := by decide +kernel
theorem dX12_readsShower_19 : decode cX12_readsShower 19 = .ok (.iconst 1, 1) := by decide +kernel
theorem dX12_readsShower_20 : decode cX12_readsShower 20 = .ok (.iadd, 1) := by decide +kernel
theorem dX12_readsShower_21 : decode cX12_readsShower 21 = .ok (.bipush 42, 2) := by decide +kernel
theorem dX12_readsShower_23 : decode cX12_readsShower 23 = .ok (.invokevirtual 122, 3) := by decide +kernel
theorem dX12_readsShower_26 : decode cX12_readsShower 26 = .ok (.ifCond .eq 15, 3) := by decide +kernel
theorem dX12_readsShower_29 : decode cX12_readsShower 29 = .ok (.aload_n 0, 1) := by decide +kernel
theorem dX12_readsShower_30 : decode cX12_readsShower 30 = .ok (.iload_n 1, 1) := by decide +kernel
theorem dX12_readsShower_31 : decode cX12_readsShower 31 = .ok (.iconst 2, 1) := by decide +kernel
theorem dX12_readsShower_32 : decode cX12_readsShower 32 = .ok (.iadd, 1) := by decide +kernel
theorem dX12_readsShower_33 : decode cX12_readsShower 33 = .ok (.bipush 59, 2) := by decide +kernel
theorem dX12_readsShower_35 : decode cX12_readsShower 35 = .ok (.invokevirtual 122, 3) := by decide +kernel
theorem dX12_readsShower_38 : decode cX12_readsShower 38 = .ok (.ifCond .ne 5, 3) := by decide +kernel
theorem dX12_readsShower_41 : decode cX12_readsShower 41 = .ok (.iconst 0, 1) := by decide +kernel
theorem dX12_readsShower_42 : decode cX12_readsShower 42 = .ok (.ireturn, 1) := by decide +kernel
theorem dX12_readsShower_43 : decode cX12_readsShower 43 = .ok (.aload_n 0, 1) := by decide +kernel
theorem dX12_readsShower_44 : decode cX12_readsShower 44 = .ok (.getfield 7, 3) := by decide +kernel
theorem dX12_readsShower_47 : decode cX12_readsShower 47 = .ok (.iconst 0, 1) := by decide +kernel
theorem dX12_readsShower_48 : decode cX12_readsShower 48 = .ok (.iaload, 1) := by decide +kernel
theorem dX12_readsShower_49 : decode cX12_readsShower 49 = .ok (.aload_n 0, 1) := by decide +kernel
theorem dX12_readsShower_50 : decode cX12_readsShower 50 = .ok (.getfield 23, 3) := by decide +kernel
theorem dX12_readsShower_53 : decode cX12_readsShower 53 = .ok (.iload_n 1, 1) := by decide +kernel
theorem dX12_readsShower_54 : decode cX12_readsShower 54 = .ok (.iaload, 1) := by decide +kernel
theorem dX12_readsShower_55 : decode cX12_readsShower 55 = .ok (.iadd, 1) := by decide +kernel
theorem dX12_readsShower_56 : decode cX12_readsShower 56 = .ok (.sipush 5000, 3) := by decide +kernel
theorem dX12_readsShower_59 : decode cX12_readsShower 59 = .ok (.if_icmp .gt 43, 3) := by decide +kernel
theorem dX12_readsShower_62 : decode cX12_readsShower 62 = .ok (.aload_n 0, 1) := by decide +kernel
theorem dX12_readsShower_63 : decode cX12_readsShower 63 = .ok (.getfield 23, 3) := by decide +kernel
theorem dX12_readsShower_66 : decode cX12_readsShower 66 = .ok (.iload_n 1, 1) := by decide +kernel
theorem dX12_readsShower_67 : decode cX12_readsShower 67 = .ok (.iconst 1, 1) := by decide +kernel
theorem dX12_readsShower_68 : decode cX12_readsShower 68 = .ok (.iadd, 1) := by decide +kernel
theorem dX12_readsShower_69 : decode cX12_readsShower 69 = .ok (.iaload, 1) := by decide +kernel
theorem dX12_readsShower_70 : decode cX12_readsShower 70 = .ok (.iconst 1, 1) := by decide +kernel
theorem dX12_readsShower_71 : decode cX12_readsShower 71 = .ok (.sipush 500, 3) := by decide +kernel
theorem dX12_readsShower_74 : decode cX12_readsShower 74 = .ok (.invokestatic 33, 3) := by decide +kernel
theorem dX12_readsShower_77 : decode cX12_readsShower 77 = .ok (.ifCond .eq 25, 3) := by decide +kernel
theorem dX12_readsShower_80 : decode cX12_readsShower 80 = .ok (.aload_n 0, 1) := by decide +kernel
theorem dX12_readsShower_81 : decode cX12_readsShower 81 = .ok (.getfield 23, 3) := by decide +kernel
theorem dX12_readsShower_84 : decode cX12_readsShower 84 = .ok (.iload_n 1, 1) := by decide +kernel
theorem dX12_readsShower_85 : decode cX12_readsShower 85 = .ok (.iconst 2, 1) := by decide +kernel
theorem dX12_readsShower_86 : decode cX12_readsShower 86 = .ok (.iadd, 1) := by decide +kernel
theorem dX12_readsShower_87 : decode cX12_readsShower 87 = .ok (.iaload, 1) := by decide +kernel
theorem dX12_readsShower_88 : decode cX12_readsShower 88 = .ok (.iconst 1, 1) := by decide +kernel
theorem dX12_readsShower_89 : decode cX12_readsShower 89 = .ok (.sipush 200, 3) := by decide +kernel
theorem dX12_readsShower_92 : decode cX12_readsShower 92 = .ok (.invokestatic 33, 3) := by decide +kernel
theorem dX12_readsShower_95 : decode cX12_readsShower 95 = .ok (.ifCond .eq 7, 3) := by decide +kernel
theorem dX12_readsShower_98 : decode cX12_readsShower 98 = .ok (.iconst 1, 1) := by decide +kernel
theorem dX12_readsShower_99 : decode cX12_readsShower 99 = .ok (.goto 4, 3) := by decide +kernel
theorem dX12_readsShower_102 : decode cX12_readsShower 102 = .ok (.iconst 0, 1) := by decide +kernel
theorem dX12_readsShower_103 : decode cX12_readsShower 103 = .ok (.istore_n 2, 1) := by decide +kernel
theorem dX12_readsShower_104 : decode cX12_readsShower 104 = .ok (.aload_n 0, 1) := by decide +kernel
theorem dX12_readsShower_105 : decode cX12_readsShower 105 = .ok (.iload_n 2, 1) := by decide +kernel
theorem dX12_readsShower_106 : decode cX12_readsShower 106 = .ok (.ifCond .ne 7, 3) := by decide +kernel
theorem dX12_readsShower_109 : decode cX12_readsShower 109 = .ok (.iconst 3, 1) := by decide +kernel
theorem dX12_readsShower_110 : decode cX12_readsShower 110 = .ok (.goto 25, 3) := by decide +kernel
theorem dX12_readsShower_113 : decode cX12_readsShower 113 = .ok (.aload_n 0, 1) := by decide +kernel
theorem dX12_readsShower_114 : decode cX12_readsShower 114 = .ok (.getfield 7, 3) := by decide +kernel
theorem dX12_readsShower_117 : decode cX12_readsShower 117 = .ok (.bipush 26, 2) := by decide +kernel
theorem dX12_readsShower_119 : decode cX12_readsShower 119 = .ok (.iaload, 1) := by decide +kernel
theorem dX12_readsShower_120 : decode cX12_readsShower 120 = .ok (.aload_n 0, 1) := by decide +kernel
theorem dX12_readsShower_121 : decode cX12_readsShower 121 = .ok (.getfield 119, 3) := by decide +kernel
theorem dX12_readsShower_124 : decode cX12_readsShower 124 = .ok (.iadd, 1) := by decide +kernel
theorem dX12_readsShower_125 : decode cX12_readsShower 125 = .ok (.bipush 12, 2) := by decide +kernel
theorem dX12_readsShower_127 : decode cX12_readsShower 127 = .ok (.if_icmp .ne 7, 3) := by decide +kernel
theorem dX12_readsShower_130 : decode cX12_readsShower 130 = .ok (.iconst 4, 1) := by decide +kernel
theorem dX12_readsShower_131 : decode cX12_readsShower 131 = .ok (.goto 4, 3) := by decide +kernel
theorem dX12_readsShower_134 : decode cX12_readsShower 134 = .ok (.iconst 0, 1) := by decide +kernel
theorem dX12_readsShower_135 : decode cX12_readsShower 135 = .ok (.putfield 116, 3) := by decide +kernel
theorem dX12_readsShower_138 : decode cX12_readsShower 138 = .ok (.aload_n 0, 1) := by decide +kernel
theorem dX12_readsShower_139 : decode cX12_readsShower 139 = .ok (.dup, 1) := by decide +kernel
theorem dX12_readsShower_140 : decode cX12_readsShower 140 = .ok (.getfield 119, 3) := by decide +kernel
theorem dX12_readsShower_143 : decode cX12_readsShower 143 = .ok (.iconst 1, 1) := by decide +kernel
theorem dX12_readsShower_144 : decode cX12_readsShower 144 = .ok (.iadd, 1) := by decide +kernel
theorem dX12_readsShower_145 : decode cX12_readsShower 145 = .ok (.putfield 119, 3) := by decide +kernel
theorem dX12_readsShower_148 : decode cX12_readsShower 148 = .ok (.aload_n 0, 1) := by decide +kernel
theorem dX12_readsShower_149 : decode cX12_readsShower 149 = .ok (.getfield 116, 3) := by decide +kernel
theorem dX12_readsShower_152 : decode cX12_readsShower 152 = .ok (.ifCond .ne 7, 3) := by decide +kernel
theorem dX12_readsShower_155 : decode cX12_readsShower 155 = .ok (.iconst 1, 1) := by decide +kernel
theorem dX12_readsShower_156 : decode cX12_readsShower 156 = .ok (.goto 4, 3) := by decide +kernel
theorem dX12_readsShower_159 : decode cX12_readsShower 159 = .ok (.iconst 0, 1) := by decide +kernel
theorem dX12_readsShower_160 : decode cX12_readsShower 160 = .ok (.ireturn, 1) := by decide +kernel
theorem dX12_faulty_0 : decode cX12_faulty 0 = .ok (.aload_n 0, 1) := by decide +kernel
theorem dX12_faulty_1 : decode cX12_faulty 1 = .ok (.iconst 0, 1) := by decide +kernel
theorem dX12_faulty_2 : decode cX12_faulty 2 = .ok (.putfield 113, 3) := by decide +kernel
theorem dX12_faulty_5 : decode cX12_faulty 5 = .ok (.aload_n 0, 1) := by decide +kernel
theorem dX12_faulty_6 : decode cX12_faulty 6 = .ok (.iconst 0, 1) := by decide +kernel
theorem dX12_faulty_7 : decode cX12_faulty 7 = .ok (.putfield 119, 3) := by decide +kernel
theorem dX12_faulty_10 : decode cX12_faulty 10 = .ok (.aload_n 0, 1) := by decide +kernel
theorem dX12_faulty_11 : decode cX12_faulty 11 = .ok (.getfield 113, 3) := by decide +kernel
theorem dX12_faulty_14 : decode cX12_faulty 14 = .ok (.aload_n 0, 1) := by decide +kernel
theorem dX12_faulty_15 : decode cX12_faulty 15 = .ok (.getfield 91, 3) := by decide +kernel
theorem dX12_faulty_18 : decode cX12_faulty 18 = .ok (.if_icmp .ge 20, 3) := by decide +kernel
theorem dX12_faulty_21 : decode cX12_faulty 21 = .ok (.aload_n 0, 1) := by decide +kernel
theorem dX12_faulty_22 : decode cX12_faulty 22 = .ok (.getfield 113, 3) := by decide +kernel
theorem dX12_faulty_25 : decode cX12_faulty 25 = .ok (.istore_n 1, 1) := by decide +kernel
theorem dX12_faulty_26 : decode cX12_faulty 26 = .ok (.aload_n 0, 1) := by decide +kernel
theorem dX12_faulty_27 : decode cX12_faulty 27 = .ok (.invokevirtual 126, 3) := by decide +kernel
theorem dX12_faulty_30 : decode cX12_faulty 30 = .ok (.ifCond .ne 5, 3) := by decide +kernel
theorem dX12_faulty_33 : decode cX12_faulty 33 = .ok (.iload_n 1, 1) := by decide +kernel
theorem dX12_faulty_34 : decode cX12_faulty 34 = .ok (.ireturn, 1) := by decide +kernel
theorem dX12_faulty_35 : decode cX12_faulty 35 = .ok (.goto (-25), 3) := by decide +kernel
theorem dX12_faulty_38 : decode cX12_faulty 38 = .ok (.bipush (-4), 2) := by decide +kernel
theorem dX12_faulty_40 : decode cX12_faulty 40 = .ok (.ireturn, 1) := by decide +kernel
theorem dX12_fault_0 : decode cX12_fault 0 = .ok (.iload_n 1, 1) := by decide +kernel
theorem dX12_fault_1 : decode cX12_fault 1 = .ok (.iconst 0, 1) := by decide +kernel
theorem dX12_fault_2 : decode cX12_fault 2 = .ok (.iconst 1, 1) := by decide +kernel
theorem dX12_fault_3 : decode cX12_fault 3 = .ok (.invokestatic 33, 3) := by decide +kernel
theorem dX12_fault_6 : decode cX12_fault 6 = .ok (.ifCond .ne 5, 3) := by decide +kernel
theorem dX12_fault_9 : decode cX12_fault 9 = .ok (.iconst (-1), 1) := by decide +kernel
theorem dX12_fault_10 : decode cX12_fault 10 = .ok (.ireturn, 1) := by decide +kernel
theorem dX12_fault_11 : decode cX12_fault 11 = .ok (.aload_n 0, 1) := by decide +kernel
theorem dX12_fault_12 : decode cX12_fault 12 = .ok (.invokevirtual 129, 3) := by decide +kernel
theorem dX12_fault_15 : decode cX12_fault 15 = .ok (.istore_n 2, 1) := by decide +kernel
theorem dX12_fault_16 : decode cX12_fault 16 = .ok (.iload_n 2, 1) := by decide +kernel
theorem dX12_fault_17 : decode cX12_fault 17 = .ok (.bipush (-4), 2) := by decide +kernel
theorem dX12_fault_19 : decode cX12_fault 19 = .ok (.if_icmp .eq 7, 3) := by decide +kernel
theorem dX12_fault_22 : decode cX12_fault 22 = .ok (.iload_n 1, 1) := by decide +kernel
theorem dX12_fault_23 : decode cX12_fault 23 = .ok (.ifCond .ne 7, 3) := by decide +kernel
theorem dX12_fault_26 : decode cX12_fault 26 = .ok (.iload_n 2, 1) := by decide +kernel
theorem dX12_fault_27 : decode cX12_fault 27 = .ok (.goto 7, 3) := by decide +kernel
theorem dX12_fault_30 : decode cX12_fault 30 = .ok (.aload_n 0, 1) := by decide +kernel
theorem dX12_fault_31 : decode cX12_fault 31 = .ok (.getfield 116, 3) := by decide +kernel
theorem dX12_fault_34 : decode cX12_fault 34 = .ok (.ireturn, 1) := by decide +kernel
theorem dX12_lay_0 : decode cX12_lay 0 = .ok (.aload_n 0, 1) := by decide +kernel
theorem dX12_lay_1 : decode cX12_lay 1 = .ok (.invokevirtual 129, 3) := by decide +kernel
theorem dX12_lay_4 : decode cX12_lay 4 = .ok (.bipush (-4), 2) := by decide +kernel
theorem dX12_lay_6 : decode cX12_lay 6 = .ok (.if_icmp .eq 6, 3) := by decide +kernel
theorem dX12_lay_9 : decode cX12_lay 9 = .ok (.bipush (-2), 2) := by decide +kernel
theorem dX12_lay_11 : decode cX12_lay 11 = .ok (.ireturn, 1) := by decide +kernel
theorem dX12_lay_12 : decode cX12_lay 12 = .ok (.aload_n 0, 1) := by decide +kernel
theorem dX12_lay_13 : decode cX12_lay 13 = .ok (.invokevirtual 63, 3) := by decide +kernel
theorem dX12_lay_16 : decode cX12_lay 16 = .ok (.iconst 0, 1) := by decide +kernel
theorem dX12_lay_17 : decode cX12_lay 17 = .ok (.istore_n 1, 1) := by decide +kernel
theorem dX12_lay_18 : decode cX12_lay 18 = .ok (.iload_n 1, 1) := by decide +kernel
theorem dX12_lay_19 : decode cX12_lay 19 = .ok (.aload_n 0, 1) := by decide +kernel
theorem dX12_lay_20 : decode cX12_lay 20 = .ok (.getfield 119, 3) := by decide +kernel
theorem dX12_lay_23 : decode cX12_lay 23 = .ok (.if_icmp .ge 49, 3) := by decide +kernel
theorem dX12_lay_26 : decode cX12_lay 26 = .ok (.aload_n 0, 1) := by decide +kernel
theorem dX12_lay_27 : decode cX12_lay 27 = .ok (.aload_n 0, 1) := by decide +kernel
theorem dX12_lay_28 : decode cX12_lay 28 = .ok (.getfield 7, 3) := by decide +kernel
theorem dX12_lay_31 : decode cX12_lay 31 = .ok (.iconst 0, 1) := by decide +kernel
theorem dX12_lay_32 : decode cX12_lay 32 = .ok (.iaload, 1) := by decide +kernel
theorem dX12_lay_33 : decode cX12_lay 33 = .ok (.aload_n 0, 1) := by decide +kernel
theorem dX12_lay_34 : decode cX12_lay 34 = .ok (.getfield 23, 3) := by decide +kernel
theorem dX12_lay_37 : decode cX12_lay 37 = .ok (.iconst 3, 1) := by decide +kernel
theorem dX12_lay_38 : decode cX12_lay 38 = .ok (.iload_n 1, 1) := by decide +kernel
theorem dX12_lay_39 : decode cX12_lay 39 = .ok (.imul, 1) := by decide +kernel
theorem dX12_lay_40 : decode cX12_lay 40 = .ok (.iaload, 1) := by decide +kernel
theorem dX12_lay_41 : decode cX12_lay 41 = .ok (.iadd, 1) := by decide +kernel
theorem dX12_lay_42 : decode cX12_lay 42 = .ok (.aload_n 0, 1) := by decide +kernel
theorem dX12_lay_43 : decode cX12_lay 43 = .ok (.getfield 23, 3) := by decide +kernel
theorem dX12_lay_46 : decode cX12_lay 46 = .ok (.iconst 3, 1) := by decide +kernel
theorem dX12_lay_47 : decode cX12_lay 47 = .ok (.iload_n 1, 1) := by decide +kernel
theorem dX12_lay_48 : decode cX12_lay 48 = .ok (.imul, 1) := by decide +kernel
theorem dX12_lay_49 : decode cX12_lay 49 = .ok (.iconst 1, 1) := by decide +kernel
theorem dX12_lay_50 : decode cX12_lay 50 = .ok (.iadd, 1) := by decide +kernel
theorem dX12_lay_51 : decode cX12_lay 51 = .ok (.iaload, 1) := by decide +kernel
theorem dX12_lay_52 : decode cX12_lay 52 = .ok (.aload_n 0, 1) := by decide +kernel
theorem dX12_lay_53 : decode cX12_lay 53 = .ok (.getfield 23, 3) := by decide +kernel
theorem dX12_lay_56 : decode cX12_lay 56 = .ok (.iconst 3, 1) := by decide +kernel
theorem dX12_lay_57 : decode cX12_lay 57 = .ok (.iload_n 1, 1) := by decide +kernel
theorem dX12_lay_58 : decode cX12_lay 58 = .ok (.imul, 1) := by decide +kernel
theorem dX12_lay_59 : decode cX12_lay 59 = .ok (.iconst 2, 1) := by decide +kernel
theorem dX12_lay_60 : decode cX12_lay 60 = .ok (.iadd, 1) := by decide +kernel
theorem dX12_lay_61 : decode cX12_lay 61 = .ok (.iaload, 1) := by decide +kernel
theorem dX12_lay_62 : decode cX12_lay 62 = .ok (.invokevirtual 66, 3) := by decide +kernel
theorem dX12_lay_65 : decode cX12_lay 65 = .ok (.pop, 1) := by decide +kernel
theorem dX12_lay_66 : decode cX12_lay 66 = .ok (.iinc 1 1, 3) := by decide +kernel
theorem dX12_lay_69 : decode cX12_lay 69 = .ok (.goto (-51), 3) := by decide +kernel
theorem dX12_lay_72 : decode cX12_lay 72 = .ok (.aload_n 0, 1) := by decide +kernel
theorem dX12_lay_73 : decode cX12_lay 73 = .ok (.getfield 119, 3) := by decide +kernel
theorem dX12_lay_76 : decode cX12_lay 76 = .ok (.ireturn, 1) := by decide +kernel
theorem dJ9_floorDiv_7cf53_0 : decode cJ9_floorDiv_7cf53 0 = .ok (.iload_n 0, 1) := by decide +kernel
theorem dJ9_floorDiv_7cf53_1 : decode cJ9_floorDiv_7cf53 1 = .ok (.iload_n 1, 1) := by decide +kernel
theorem dJ9_floorDiv_7cf53_2 : decode cJ9_floorDiv_7cf53 2 = .ok (.idiv, 1) := by decide +kernel
theorem dJ9_floorDiv_7cf53_3 : decode cJ9_floorDiv_7cf53 3 = .ok (.istore_n 2, 1) := by decide +kernel
theorem dJ9_floorDiv_7cf53_4 : decode cJ9_floorDiv_7cf53 4 = .ok (.iload_n 0, 1) := by decide +kernel
theorem dJ9_floorDiv_7cf53_5 : decode cJ9_floorDiv_7cf53 5 = .ok (.iload_n 1, 1) := by decide +kernel
theorem dJ9_floorDiv_7cf53_6 : decode cJ9_floorDiv_7cf53 6 = .ok (.ixor, 1) := by decide +kernel
theorem dJ9_floorDiv_7cf53_7 : decode cJ9_floorDiv_7cf53 7 = .ok (.ifCond .ge 14, 3) := by decide +kernel
theorem dJ9_floorDiv_7cf53_10 : decode cJ9_floorDiv_7cf53 10 = .ok (.iload_n 2, 1) := by decide +kernel
theorem dJ9_floorDiv_7cf53_11 : decode cJ9_floorDiv_7cf53 11 = .ok (.iload_n 1, 1) := by decide +kernel
theorem dJ9_floorDiv_7cf53_12 : decode cJ9_floorDiv_7cf53 12 = .ok (.imul, 1) := by decide +kernel
theorem dJ9_floorDiv_7cf53_13 : decode cJ9_floorDiv_7cf53 13 = .ok (.iload_n 0, 1) := by decide +kernel
theorem dJ9_floorDiv_7cf53_14 : decode cJ9_floorDiv_7cf53 14 = .ok (.if_icmp .eq 7, 3) := by decide +kernel
theorem dJ9_floorDiv_7cf53_17 : decode cJ9_floorDiv_7cf53 17 = .ok (.iload_n 2, 1) := by decide +kernel
theorem dJ9_floorDiv_7cf53_18 : decode cJ9_floorDiv_7cf53 18 = .ok (.iconst 1, 1) := by decide +kernel
theorem dJ9_floorDiv_7cf53_19 : decode cJ9_floorDiv_7cf53 19 = .ok (.isub, 1) := by decide +kernel
theorem dJ9_floorDiv_7cf53_20 : decode cJ9_floorDiv_7cf53 20 = .ok (.ireturn, 1) := by decide +kernel
theorem dJ9_floorDiv_7cf53_21 : decode cJ9_floorDiv_7cf53 21 = .ok (.iload_n 2, 1) := by decide +kernel
theorem dJ9_floorDiv_7cf53_22 : decode cJ9_floorDiv_7cf53 22 = .ok (.ireturn, 1) := by decide +kernel
theorem dJ9_max_7cf53_0 : decode cJ9_max_7cf53 0 = .ok (.iload_n 0, 1) := by decide +kernel
theorem dJ9_max_7cf53_1 : decode cJ9_max_7cf53 1 = .ok (.iload_n 1, 1) := by decide +kernel
theorem dJ9_max_7cf53_2 : decode cJ9_max_7cf53 2 = .ok (.if_icmp .lt 7, 3) := by decide +kernel
theorem dJ9_max_7cf53_5 : decode cJ9_max_7cf53 5 = .ok (.iload_n 0, 1) := by decide +kernel
theorem dJ9_max_7cf53_6 : decode cJ9_max_7cf53 6 = .ok (.goto 4, 3) := by decide +kernel
theorem dJ9_max_7cf53_9 : decode cJ9_max_7cf53 9 = .ok (.iload_n 1, 1) := by decide +kernel
theorem dJ9_max_7cf53_10 : decode cJ9_max_7cf53 10 = .ok (.ireturn, 1) := by decide +kernel
theorem dJ9_min_7cf53_0 : decode cJ9_min_7cf53 0 = .ok (.iload_n 0, 1) := by decide +kernel
theorem dJ9_min_7cf53_1 : decode cJ9_min_7cf53 1 = .ok (.iload_n 1, 1) := by decide +kernel
theorem dJ9_min_7cf53_2 : decode cJ9_min_7cf53 2 = .ok (.if_icmp .gt 7, 3) := by decide +kernel
theorem dJ9_min_7cf53_5 : decode cJ9_min_7cf53 5 = .ok (.iload_n 0, 1) := by decide +kernel
theorem dJ9_min_7cf53_6 : decode cJ9_min_7cf53 6 = .ok (.goto 4, 3) := by decide +kernel
theorem dJ9_min_7cf53_9 : decode cJ9_min_7cf53 9 = .ok (.iload_n 1, 1) := by decide +kernel
theorem dJ9_min_7cf53_10 : decode cJ9_min_7cf53 10 = .ok (.ireturn, 1) := by decide +kernel
theorem dL_law_0 : decode cL_law 0 = .ok (.new 7, 3) := by decide +kernel
theorem dL_law_3 : decode cL_law 3 = .ok (.dup, 1) := by decide +kernel
theorem dL_law_4 : decode cL_law 4 = .ok (.invokespecial 9, 3) := by decide +kernel
theorem dL_law_7 : decode cL_law 7 = .ok (.astore_n 1, 1) := by decide +kernel
theorem dL_law_8 : decode cL_law 8 = .ok (.new 10, 3) := by decide +kernel
theorem dL_law_11 : decode cL_law 11 = .ok (.dup, 1) := by decide +kernel
theorem dL_law_12 : decode cL_law 12 = .ok (.invokespecial 12, 3) := by decide +kernel
theorem dL_law_15 : decode cL_law 15 = .ok (.astore_n 2, 1) := by decide +kernel
theorem dL_law_16 : decode cL_law 16 = .ok (.iconst 0, 1) := by decide +kernel
theorem dL_law_17 : decode cL_law 17 = .ok (.istore_n 3, 1) := by decide +kernel
theorem dL_law_18 : decode cL_law 18 = .ok (.iload_n 3, 1) := by decide +kernel
theorem dL_law_19 : decode cL_law 19 = .ok (.aload_n 0, 1) := by decide +kernel
theorem dL_law_20 : decode cL_law 20 = .ok (.arraylength, 1) := by decide +kernel
theorem dL_law_21 : decode cL_law 21 = .ok (.iconst 4, 1) := by decide +kernel
theorem dL_law_22 : decode cL_law 22 = .ok (.isub, 1) := by decide +kernel
theorem dL_law_23 : decode cL_law 23 = .ok (.if_icmp .gt 709, 3) := by decide +kernel
theorem dL_law_26 : decode cL_law 26 = .ok (.aload_n 0, 1) := by decide +kernel
theorem dL_law_27 : decode cL_law 27 = .ok (.iload_n 3, 1) := by decide +kernel
theorem dL_law_28 : decode cL_law 28 = .ok (.iaload, 1) := by decide +kernel
theorem dL_law_29 : decode cL_law 29 = .ok (.bipush 31, 2) := by decide +kernel
theorem dL_law_31 : decode cL_law 31 = .ok (.iand, 1) := by decide +kernel
theorem dL_law_32 : decode cL_law 32 = .ok (.tableswitch 694 0 23 #[112, 155, 178, 211, 234, 247, 280, 293, 326, 349, 382, 405, 428, 461, 494, 507, 520, 553, 586, 599, 622, 645, 658, 681], 112) := by decide +kernel
theorem dL_law_144 : decode cL_law 144 = .ok (.aload_n 1, 1) := by decide +kernel
theorem dL_law_145 : decode cL_law 145 = .ok (.aload_n 0, 1) := by decide +kernel
theorem dL_law_146 : decode cL_law 146 = .ok (.iload_n 3, 1) := by decide +kernel
theorem dL_law_147 : decode cL_law 147 = .ok (.iconst 1, 1) := by decide +kernel
theorem dL_law_148 : decode cL_law 148 = .ok (.iadd, 1) := by decide +kernel
theorem dL_law_149 : decode cL_law 149 = .ok (.iaload, 1) := by decide +kernel
theorem dL_law_150 : decode cL_law 150 = .ok (.aload_n 0, 1) := by decide +kernel
theorem dL_law_151 : decode cL_law 151 = .ok (.iload_n 3, 1) := by decide +kernel
theorem dL_law_152 : decode cL_law 152 = .ok (.iconst 2, 1) := by decide +kernel
theorem dL_law_153 : decode cL_law 153 = .ok (.iadd, 1) := by decide +kernel
theorem dL_law_154 : decode cL_law 154 = .ok (.iaload, 1) := by decide +kernel
theorem dL_law_155 : decode cL_law 155 = .ok (.aload_n 0, 1) := by decide +kernel
theorem dL_law_156 : decode cL_law 156 = .ok (.iload_n 3, 1) := by decide +kernel
theorem dL_law_157 : decode cL_law 157 = .ok (.iconst 3, 1) := by decide +kernel
theorem dL_law_158 : decode cL_law 158 = .ok (.iadd, 1) := by decide +kernel
theorem dL_law_159 : decode cL_law 159 = .ok (.iaload, 1) := by decide +kernel
theorem dL_law_160 : decode cL_law 160 = .ok (.invokevirtual 13, 3) := by decide +kernel
theorem dL_law_163 : decode cL_law 163 = .ok (.aload_n 2, 1) := by decide +kernel
theorem dL_law_164 : decode cL_law 164 = .ok (.aload_n 0, 1) := by decide +kernel
theorem dL_law_165 : decode cL_law 165 = .ok (.iload_n 3, 1) := by decide +kernel
theorem dL_law_166 : decode cL_law 166 = .ok (.iconst 1, 1) := by decide +kernel
theorem dL_law_167 : decode cL_law 167 = .ok (.iadd, 1) := by decide +kernel
theorem dL_law_168 : decode cL_law 168 = .ok (.iaload, 1) := by decide +kernel
theorem dL_law_169 : decode cL_law 169 = .ok (.aload_n 0, 1) := by decide +kernel
theorem dL_law_170 : decode cL_law 170 = .ok (.iload_n 3, 1) := by decide +kernel
theorem dL_law_171 : decode cL_law 171 = .ok (.iconst 2, 1) := by decide +kernel
theorem dL_law_172 : decode cL_law 172 = .ok (.iadd, 1) := by decide +kernel
theorem dL_law_173 : decode cL_law 173 = .ok (.iaload, 1) := by decide +kernel
theorem dL_law_174 : decode cL_law 174 = .ok (.aload_n 0, 1) := by decide +kernel
theorem dL_law_175 : decode cL_law 175 = .ok (.iload_n 3, 1) := by decide +kernel
theorem dL_law_176 : decode cL_law 176 = .ok (.iconst 3, 1) := by decide +kernel
theorem dL_law_177 : decode cL_law 177 = .ok (.iadd, 1) := by decide +kernel
theorem dL_law_178 : decode cL_law 178 = .ok (.iaload, 1) := by decide +kernel
theorem dL_law_179 : decode cL_law 179 = .ok (.invokevirtual 17, 3) := by decide +kernel
theorem dL_law_182 : decode cL_law 182 = .ok (.if_icmp .eq 544, 3) := by decide +kernel
theorem dL_law_185 : decode cL_law 185 = .ok (.iconst 0, 1) := by decide +kernel
theorem dL_law_186 : decode cL_law 186 = .ok (.ireturn, 1) := by decide +kernel
theorem dL_law_187 : decode cL_law 187 = .ok (.aload_n 1, 1) := by decide +kernel
theorem dL_law_188 : decode cL_law 188 = .ok (.aload_n 0, 1) := by decide +kernel
theorem dL_law_189 : decode cL_law 189 = .ok (.iload_n 3, 1) := by decide +kernel
theorem dL_law_190 : decode cL_law 190 = .ok (.iconst 1, 1) := by decide +kernel
theorem dL_law_191 : decode cL_law 191 = .ok (.iadd, 1) := by decide +kernel
theorem dL_law_192 : decode cL_law 192 = .ok (.iaload, 1) := by decide +kernel
theorem dL_law_193 : decode cL_law 193 = .ok (.invokevirtual 18, 3) := by decide +kernel
theorem dL_law_196 : decode cL_law 196 = .ok (.aload_n 2, 1) := by decide +kernel
theorem dL_law_197 : decode cL_law 197 = .ok (.aload_n 0, 1) := by decide +kernel
theorem dL_law_198 : decode cL_law 198 = .ok (.iload_n 3, 1) := by decide +kernel
theorem dL_law_199 : decode cL_law 199 = .ok (.iconst 1, 1) := by decide +kernel
theorem dL_law_200 : decode cL_law 200 = .ok (.iadd, 1) := by decide +kernel
theorem dL_law_201 : decode cL_law 201 = .ok (.iaload, 1) := by decide +kernel
theorem dL_law_202 : decode cL_law 202 = .ok (.invokevirtual 22, 3) := by decide +kernel
theorem dL_law_205 : decode cL_law 205 = .ok (.if_icmp .eq 521, 3) := by decide +kernel
theorem dL_law_208 : decode cL_law 208 = .ok (.iconst 0, 1) := by decide +kernel
theorem dL_law_209 : decode cL_law 209 = .ok (.ireturn, 1) := by decide +kernel
theorem dL_law_210 : decode cL_law 210 = .ok (.aload_n 1, 1) := by decide +kernel
theorem dL_law_211 : decode cL_law 211 = .ok (.aload_n 0, 1) := by decide +kernel
theorem dL_law_212 : decode cL_law 212 = .ok (.iload_n 3, 1) := by decide +kernel
theorem dL_law_213 : decode cL_law 213 = .ok (.iconst 1, 1) := by decide +kernel
theorem dL_law_214 : decode cL_law 214 = .ok (.iadd, 1) := by decide +kernel
theorem dL_law_215 : decode cL_law 215 = .ok (.iaload, 1) := by decide +kernel
theorem dL_law_216 : decode cL_law 216 = .ok (.aload_n 0, 1) := by decide +kernel
theorem dL_law_217 : decode cL_law 217 = .ok (.iload_n 3, 1) := by decide +kernel
theorem dL_law_218 : decode cL_law 218 = .ok (.iconst 2, 1) := by decide +kernel
theorem dL_law_219 : decode cL_law 219 = .ok (.iadd, 1) := by decide +kernel
theorem dL_law_220 : decode cL_law 220 = .ok (.iaload, 1) := by decide +kernel
theorem dL_law_221 : decode cL_law 221 = .ok (.invokevirtual 23, 3) := by decide +kernel
theorem dL_law_224 : decode cL_law 224 = .ok (.aload_n 2, 1) := by decide +kernel
theorem dL_law_225 : decode cL_law 225 = .ok (.aload_n 0, 1) := by decide +kernel
theorem dL_law_226 : decode cL_law 226 = .ok (.iload_n 3, 1) := by decide +kernel
theorem dL_law_227 : decode cL_law 227 = .ok (.iconst 1, 1) := by decide +kernel
theorem dL_law_228 : decode cL_law 228 = .ok (.iadd, 1) := by decide +kernel
theorem dL_law_229 : decode cL_law 229 = .ok (.iaload, 1) := by decide +kernel
theorem dL_law_230 : decode cL_law 230 = .ok (.aload_n 0, 1) := by decide +kernel
theorem dL_law_231 : decode cL_law 231 = .ok (.iload_n 3, 1) := by decide +kernel
theorem dL_law_232 : decode cL_law 232 = .ok (.iconst 2, 1) := by decide +kernel
theorem dL_law_233 : decode cL_law 233 = .ok (.iadd, 1) := by decide +kernel
theorem dL_law_234 : decode cL_law 234 = .ok (.iaload, 1) := by decide +kernel
theorem dL_law_235 : decode cL_law 235 = .ok (.invokevirtual 27, 3) := by decide +kernel
theorem dL_law_238 : decode cL_law 238 = .ok (.if_icmp .eq 488, 3) := by decide +kernel
theorem dL_law_241 : decode cL_law 241 = .ok (.iconst 0, 1) := by decide +kernel
theorem dL_law_242 : decode cL_law 242 = .ok (.ireturn, 1) := by decide +kernel
theorem dL_law_243 : decode cL_law 243 = .ok (.aload_n 1, 1) := by decide +kernel
theorem dL_law_244 : decode cL_law 244 = .ok (.aload_n 0, 1) := by decide +kernel
theorem dL_law_245 : decode cL_law 245 = .ok (.iload_n 3, 1) := by decide +kernel
theorem dL_law_246 : decode cL_law 246 = .ok (.iconst 1, 1) := by decide +kernel
theorem dL_law_247 : decode cL_law 247 = .ok (.iadd, 1) := by decide +kernel
theorem dL_law_248 : decode cL_law 248 = .ok (.iaload, 1) := by decide +kernel
theorem dL_law_249 : decode cL_law 249 = .ok (.invokevirtual 28, 3) := by decide +kernel
theorem dL_law_252 : decode cL_law 252 = .ok (.aload_n 2, 1) := by decide +kernel
theorem dL_law_253 : decode cL_law 253 = .ok (.aload_n 0, 1) := by decide +kernel
theorem dL_law_254 : decode cL_law 254 = .ok (.iload_n 3, 1) := by decide +kernel
theorem dL_law_255 : decode cL_law 255 = .ok (.iconst 1, 1) := by decide +kernel
theorem dL_law_256 : decode cL_law 256 = .ok (.iadd, 1) := by decide +kernel
theorem dL_law_257 : decode cL_law 257 = .ok (.iaload, 1) := by decide +kernel
theorem dL_law_258 : decode cL_law 258 = .ok (.invokevirtual 31, 3) := by decide +kernel
theorem dL_law_261 : decode cL_law 261 = .ok (.if_icmp .eq 465, 3) := by decide +kernel
theorem dL_law_264 : decode cL_law 264 = .ok (.iconst 0, 1) := by decide +kernel
theorem dL_law_265 : decode cL_law 265 = .ok (.ireturn, 1) := by decide +kernel
theorem dL_law_266 : decode cL_law 266 = .ok (.aload_n 1, 1) := by decide +kernel
theorem dL_law_267 : decode cL_law 267 = .ok (.invokevirtual 32, 3) := by decide +kernel
theorem dL_law_270 : decode cL_law 270 = .ok (.aload_n 2, 1) := by decide +kernel
theorem dL_law_271 : decode cL_law 271 = .ok (.invokevirtual 36, 3) := by decide +kernel
theorem dL_law_274 : decode cL_law 274 = .ok (.if_icmp .eq 452, 3) := by decide +kernel
theorem dL_law_277 : decode cL_law 277 = .ok (.iconst 0, 1) := by decide +kernel
theorem dL_law_278 : decode cL_law 278 = .ok (.ireturn, 1) := by decide +kernel
theorem dL_law_279 : decode cL_law 279 = .ok (.aload_n 1, 1) := by decide +kernel
theorem dL_law_280 : decode cL_law 280 = .ok (.aload_n 0, 1) := by decide +kernel
theorem dL_law_281 : decode cL_law 281 = .ok (.iload_n 3, 1) := by decide +kernel
theorem dL_law_282 : decode cL_law 282 = .ok (.iconst 1, 1) := by decide +kernel
theorem dL_law_283 : decode cL_law 283 = .ok (.iadd, 1) := by decide +kernel
theorem dL_law_284 : decode cL_law 284 = .ok (.iaload, 1) := by decide +kernel
theorem dL_law_285 : decode cL_law 285 = .ok (.aload_n 0, 1) := by decide +kernel
theorem dL_law_286 : decode cL_law 286 = .ok (.iload_n 3, 1) := by decide +kernel
theorem dL_law_287 : decode cL_law 287 = .ok (.iconst 2, 1) := by decide +kernel
theorem dL_law_288 : decode cL_law 288 = .ok (.iadd, 1) := by decide +kernel
theorem dL_law_289 : decode cL_law 289 = .ok (.iaload, 1) := by decide +kernel
theorem dL_law_290 : decode cL_law 290 = .ok (.invokevirtual 37, 3) := by decide +kernel
theorem dL_law_293 : decode cL_law 293 = .ok (.aload_n 2, 1) := by decide +kernel
theorem dL_law_294 : decode cL_law 294 = .ok (.aload_n 0, 1) := by decide +kernel
theorem dL_law_295 : decode cL_law 295 = .ok (.iload_n 3, 1) := by decide +kernel
theorem dL_law_296 : decode cL_law 296 = .ok (.iconst 1, 1) := by decide +kernel
theorem dL_law_297 : decode cL_law 297 = .ok (.iadd, 1) := by decide +kernel
theorem dL_law_298 : decode cL_law 298 = .ok (.iaload, 1) := by decide +kernel
theorem dL_law_299 : decode cL_law 299 = .ok (.aload_n 0, 1) := by decide +kernel
theorem dL_law_300 : decode cL_law 300 = .ok (.iload_n 3, 1) := by decide +kernel
theorem dL_law_301 : decode cL_law 301 = .ok (.iconst 2, 1) := by decide +kernel
theorem dL_law_302 : decode cL_law 302 = .ok (.iadd, 1) := by decide +kernel
theorem dL_law_303 : decode cL_law 303 = .ok (.iaload, 1) := by decide +kernel
theorem dL_law_304 : decode cL_law 304 = .ok (.invokevirtual 40, 3) := by decide +kernel
theorem dL_law_307 : decode cL_law 307 = .ok (.if_icmp .eq 419, 3) := by decide +kernel
theorem dL_law_310 : decode cL_law 310 = .ok (.iconst 0, 1) := by decide +kernel
theorem dL_law_311 : decode cL_law 311 = .ok (.ireturn, 1) := by decide +kernel
theorem dL_law_312 : decode cL_law 312 = .ok (.aload_n 1, 1) := by decide +kernel
theorem dL_law_313 : decode cL_law 313 = .ok (.invokevirtual 41, 3) := by decide +kernel
theorem dL_law_316 : decode cL_law 316 = .ok (.aload_n 2, 1) := by decide +kernel
theorem dL_law_317 : decode cL_law 317 = .ok (.invokevirtual 44, 3) := by decide +kernel
theorem dL_law_320 : decode cL_law 320 = .ok (.if_icmp .eq 406, 3) := by decide +kernel
theorem dL_law_323 : decode cL_law 323 = .ok (.iconst 0, 1) := by decide +kernel
theorem dL_law_324 : decode cL_law 324 = .ok (.ireturn, 1) := by decide +kernel
theorem dL_law_325 : decode cL_law 325 = .ok (.aload_n 1, 1) := by decide +kernel
theorem dL_law_326 : decode cL_law 326 = .ok (.aload_n 0, 1) := by decide +kernel
theorem dL_law_327 : decode cL_law 327 = .ok (.iload_n 3, 1) := by decide +kernel
theorem dL_law_328 : decode cL_law 328 = .ok (.iconst 1, 1) := by decide +kernel
theorem dL_law_329 : decode cL_law 329 = .ok (.iadd, 1) := by decide +kernel
theorem dL_law_330 : decode cL_law 330 = .ok (.iaload, 1) := by decide +kernel
theorem dL_law_331 : decode cL_law 331 = .ok (.aload_n 0, 1) := by decide +kernel
theorem dL_law_332 : decode cL_law 332 = .ok (.iload_n 3, 1) := by decide +kernel
theorem dL_law_333 : decode cL_law 333 = .ok (.iconst 2, 1) := by decide +kernel
theorem dL_law_334 : decode cL_law 334 = .ok (.iadd, 1) := by decide +kernel
theorem dL_law_335 : decode cL_law 335 = .ok (.iaload, 1) := by decide +kernel
theorem dL_law_336 : decode cL_law 336 = .ok (.invokevirtual 45, 3) := by decide +kernel
theorem dL_law_339 : decode cL_law 339 = .ok (.aload_n 2, 1) := by decide +kernel
theorem dL_law_340 : decode cL_law 340 = .ok (.aload_n 0, 1) := by decide +kernel
theorem dL_law_341 : decode cL_law 341 = .ok (.iload_n 3, 1) := by decide +kernel
theorem dL_law_342 : decode cL_law 342 = .ok (.iconst 1, 1) := by decide +kernel
theorem dL_law_343 : decode cL_law 343 = .ok (.iadd, 1) := by decide +kernel
theorem dL_law_344 : decode cL_law 344 = .ok (.iaload, 1) := by decide +kernel
theorem dL_law_345 : decode cL_law 345 = .ok (.aload_n 0, 1) := by decide +kernel
theorem dL_law_346 : decode cL_law 346 = .ok (.iload_n 3, 1) := by decide +kernel
theorem dL_law_347 : decode cL_law 347 = .ok (.iconst 2, 1) := by decide +kernel
theorem dL_law_348 : decode cL_law 348 = .ok (.iadd, 1) := by decide +kernel
theorem dL_law_349 : decode cL_law 349 = .ok (.iaload, 1) := by decide +kernel
theorem dL_law_350 : decode cL_law 350 = .ok (.invokevirtual 48, 3) := by decide +kernel
theorem dL_law_353 : decode cL_law 353 = .ok (.if_icmp .eq 373, 3) := by decide +kernel
theorem dL_law_356 : decode cL_law 356 = .ok (.iconst 0, 1) := by decide +kernel
theorem dL_law_357 : decode cL_law 357 = .ok (.ireturn, 1) := by decide +kernel
theorem dL_law_358 : decode cL_law 358 = .ok (.aload_n 1, 1) := by decide +kernel
theorem dL_law_359 : decode cL_law 359 = .ok (.aload_n 0, 1) := by decide +kernel
theorem dL_law_360 : decode cL_law 360 = .ok (.iload_n 3, 1) := by decide +kernel
theorem dL_law_361 : decode cL_law 361 = .ok (.iconst 1, 1) := by decide +kernel
theorem dL_law_362 : decode cL_law 362 = .ok (.iadd, 1) := by decide +kernel
theorem dL_law_363 : decode cL_law 363 = .ok (.iaload, 1) := by decide +kernel
theorem dL_law_364 : decode cL_law 364 = .ok (.invokevirtual 49, 3) := by decide +kernel
theorem dL_law_367 : decode cL_law 367 = .ok (.aload_n 2, 1) := by decide +kernel
theorem dL_law_368 : decode cL_law 368 = .ok (.aload_n 0, 1) := by decide +kernel
theorem dL_law_369 : decode cL_law 369 = .ok (.iload_n 3, 1) := by decide +kernel
theorem dL_law_370 : decode cL_law 370 = .ok (.iconst 1, 1) := by decide +kernel
theorem dL_law_371 : decode cL_law 371 = .ok (.iadd, 1) := by decide +kernel
theorem dL_law_372 : decode cL_law 372 = .ok (.iaload, 1) := by decide +kernel
theorem dL_law_373 : decode cL_law 373 = .ok (.invokevirtual 52, 3) := by decide +kernel
theorem dL_law_376 : decode cL_law 376 = .ok (.if_icmp .eq 350, 3) := by decide +kernel
theorem dL_law_379 : decode cL_law 379 = .ok (.iconst 0, 1) := by decide +kernel
theorem dL_law_380 : decode cL_law 380 = .ok (.ireturn, 1) := by decide +kernel
theorem dL_law_381 : decode cL_law 381 = .ok (.aload_n 1, 1) := by decide +kernel
theorem dL_law_382 : decode cL_law 382 = .ok (.aload_n 0, 1) := by decide +kernel
theorem dL_law_383 : decode cL_law 383 = .ok (.iload_n 3, 1) := by decide +kernel
theorem dL_law_384 : decode cL_law 384 = .ok (.iconst 1, 1) := by decide +kernel
theorem dL_law_385 : decode cL_law 385 = .ok (.iadd, 1) := by decide +kernel
theorem dL_law_386 : decode cL_law 386 = .ok (.iaload, 1) := by decide +kernel
theorem dL_law_387 : decode cL_law 387 = .ok (.aload_n 0, 1) := by decide +kernel
theorem dL_law_388 : decode cL_law 388 = .ok (.iload_n 3, 1) := by decide +kernel
theorem dL_law_389 : decode cL_law 389 = .ok (.iconst 2, 1) := by decide +kernel
theorem dL_law_390 : decode cL_law 390 = .ok (.iadd, 1) := by decide +kernel
theorem dL_law_391 : decode cL_law 391 = .ok (.iaload, 1) := by decide +kernel
theorem dL_law_392 : decode cL_law 392 = .ok (.invokevirtual 53, 3) := by decide +kernel
theorem dL_law_395 : decode cL_law 395 = .ok (.aload_n 2, 1) := by decide +kernel
theorem dL_law_396 : decode cL_law 396 = .ok (.aload_n 0, 1) := by decide +kernel
theorem dL_law_397 : decode cL_law 397 = .ok (.iload_n 3, 1) := by decide +kernel
theorem dL_law_398 : decode cL_law 398 = .ok (.iconst 1, 1) := by decide +kernel
theorem dL_law_399 : decode cL_law 399 = .ok (.iadd, 1) := by decide +kernel
theorem dL_law_400 : decode cL_law 400 = .ok (.iaload, 1) := by decide +kernel
theorem dL_law_401 : decode cL_law 401 = .ok (.aload_n 0, 1) := by decide +kernel
theorem dL_law_402 : decode cL_law 402 = .ok (.iload_n 3, 1) := by decide +kernel
theorem dL_law_403 : decode cL_law 403 = .ok (.iconst 2, 1) := by decide +kernel
theorem dL_law_404 : decode cL_law 404 = .ok (.iadd, 1) := by decide +kernel
theorem dL_law_405 : decode cL_law 405 = .ok (.iaload, 1) := by decide +kernel
theorem dL_law_406 : decode cL_law 406 = .ok (.invokevirtual 56, 3) := by decide +kernel
theorem dL_law_409 : decode cL_law 409 = .ok (.if_icmp .eq 317, 3) := by decide +kernel
theorem dL_law_412 : decode cL_law 412 = .ok (.iconst 0, 1) := by decide +kernel
theorem dL_law_413 : decode cL_law 413 = .ok (.ireturn, 1) := by decide +kernel
theorem dL_law_414 : decode cL_law 414 = .ok (.aload_n 1, 1) := by decide +kernel
theorem dL_law_415 : decode cL_law 415 = .ok (.aload_n 0, 1) := by decide +kernel
theorem dL_law_416 : decode cL_law 416 = .ok (.iload_n 3, 1) := by decide +kernel
theorem dL_law_417 : decode cL_law 417 = .ok (.iconst 1, 1) := by decide +kernel
theorem dL_law_418 : decode cL_law 418 = .ok (.iadd, 1) := by decide +kernel
theorem dL_law_419 : decode cL_law 419 = .ok (.iaload, 1) := by decide +kernel
theorem dL_law_420 : decode cL_law 420 = .ok (.invokevirtual 57, 3) := by decide +kernel
theorem dL_law_423 : decode cL_law 423 = .ok (.aload_n 2, 1) := by decide +kernel
theorem dL_law_424 : decode cL_law 424 = .ok (.aload_n 0, 1) := by decide +kernel
theorem dL_law_425 : decode cL_law 425 = .ok (.iload_n 3, 1) := by decide +kernel
theorem dL_law_426 : decode cL_law 426 = .ok (.iconst 1, 1) := by decide +kernel
theorem dL_law_427 : decode cL_law 427 = .ok (.iadd, 1) := by decide +kernel
theorem dL_law_428 : decode cL_law 428 = .ok (.iaload, 1) := by decide +kernel
theorem dL_law_429 : decode cL_law 429 = .ok (.invokevirtual 60, 3) := by decide +kernel
theorem dL_law_432 : decode cL_law 432 = .ok (.if_icmp .eq 294, 3) := by decide +kernel
theorem dL_law_435 : decode cL_law 435 = .ok (.iconst 0, 1) := by decide +kernel
theorem dL_law_436 : decode cL_law 436 = .ok (.ireturn, 1) := by decide +kernel
theorem dL_law_437 : decode cL_law 437 = .ok (.aload_n 1, 1) := by decide +kernel
theorem dL_law_438 : decode cL_law 438 = .ok (.aload_n 0, 1) := by decide +kernel
theorem dL_law_439 : decode cL_law 439 = .ok (.iload_n 3, 1) := by decide +kernel
theorem dL_law_440 : decode cL_law 440 = .ok (.iconst 1, 1) := by decide +kernel
theorem dL_law_441 : decode cL_law 441 = .ok (.iadd, 1) := by decide +kernel
theorem dL_law_442 : decode cL_law 442 = .ok (.iaload, 1) := by decide +kernel
theorem dL_law_443 : decode cL_law 443 = .ok (.invokevirtual 61, 3) := by decide +kernel
theorem dL_law_446 : decode cL_law 446 = .ok (.aload_n 2, 1) := by decide +kernel
theorem dL_law_447 : decode cL_law 447 = .ok (.aload_n 0, 1) := by decide +kernel
theorem dL_law_448 : decode cL_law 448 = .ok (.iload_n 3, 1) := by decide +kernel
theorem dL_law_449 : decode cL_law 449 = .ok (.iconst 1, 1) := by decide +kernel
theorem dL_law_450 : decode cL_law 450 = .ok (.iadd, 1) := by decide +kernel
theorem dL_law_451 : decode cL_law 451 = .ok (.iaload, 1) := by decide +kernel
theorem dL_law_452 : decode cL_law 452 = .ok (.invokevirtual 64, 3) := by decide +kernel
theorem dL_law_455 : decode cL_law 455 = .ok (.if_icmp .eq 271, 3) := by decide +kernel
theorem dL_law_458 : decode cL_law 458 = .ok (.iconst 0, 1) := by decide +kernel
theorem dL_law_459 : decode cL_law 459 = .ok (.ireturn, 1) := by decide +kernel
theorem dL_law_460 : decode cL_law 460 = .ok (.aload_n 1, 1) := by decide +kernel
theorem dL_law_461 : decode cL_law 461 = .ok (.aload_n 0, 1) := by decide +kernel
theorem dL_law_462 : decode cL_law 462 = .ok (.iload_n 3, 1) := by decide +kernel
theorem dL_law_463 : decode cL_law 463 = .ok (.iconst 1, 1) := by decide +kernel
theorem dL_law_464 : decode cL_law 464 = .ok (.iadd, 1) := by decide +kernel
theorem dL_law_465 : decode cL_law 465 = .ok (.iaload, 1) := by decide +kernel
theorem dL_law_466 : decode cL_law 466 = .ok (.aload_n 0, 1) := by decide +kernel
theorem dL_law_467 : decode cL_law 467 = .ok (.iload_n 3, 1) := by decide +kernel
theorem dL_law_468 : decode cL_law 468 = .ok (.iconst 2, 1) := by decide +kernel
theorem dL_law_469 : decode cL_law 469 = .ok (.iadd, 1) := by decide +kernel
theorem dL_law_470 : decode cL_law 470 = .ok (.iaload, 1) := by decide +kernel
theorem dL_law_471 : decode cL_law 471 = .ok (.invokevirtual 65, 3) := by decide +kernel
theorem dL_law_474 : decode cL_law 474 = .ok (.aload_n 2, 1) := by decide +kernel
theorem dL_law_475 : decode cL_law 475 = .ok (.aload_n 0, 1) := by decide +kernel
theorem dL_law_476 : decode cL_law 476 = .ok (.iload_n 3, 1) := by decide +kernel
theorem dL_law_477 : decode cL_law 477 = .ok (.iconst 1, 1) := by decide +kernel
theorem dL_law_478 : decode cL_law 478 = .ok (.iadd, 1) := by decide +kernel
theorem dL_law_479 : decode cL_law 479 = .ok (.iaload, 1) := by decide +kernel
theorem dL_law_480 : decode cL_law 480 = .ok (.aload_n 0, 1) := by decide +kernel
theorem dL_law_481 : decode cL_law 481 = .ok (.iload_n 3, 1) := by decide +kernel
theorem dL_law_482 : decode cL_law 482 = .ok (.iconst 2, 1) := by decide +kernel
theorem dL_law_483 : decode cL_law 483 = .ok (.iadd, 1) := by decide +kernel
theorem dL_law_484 : decode cL_law 484 = .ok (.iaload, 1) := by decide +kernel
theorem dL_law_485 : decode cL_law 485 = .ok (.invokevirtual 68, 3) := by decide +kernel
theorem dL_law_488 : decode cL_law 488 = .ok (.if_icmp .eq 238, 3) := by decide +kernel
theorem dL_law_491 : decode cL_law 491 = .ok (.iconst 0, 1) := by decide +kernel
theorem dL_law_492 : decode cL_law 492 = .ok (.ireturn, 1) := by decide +kernel
theorem dL_law_493 : decode cL_law 493 = .ok (.aload_n 1, 1) := by decide +kernel
theorem dL_law_494 : decode cL_law 494 = .ok (.aload_n 0, 1) := by decide +kernel
theorem dL_law_495 : decode cL_law 495 = .ok (.iload_n 3, 1) := by decide +kernel
theorem dL_law_496 : decode cL_law 496 = .ok (.iconst 1, 1) := by decide +kernel
theorem dL_law_497 : decode cL_law 497 = .ok (.iadd, 1) := by decide +kernel
theorem dL_law_498 : decode cL_law 498 = .ok (.iaload, 1) := by decide +kernel
theorem dL_law_499 : decode cL_law 499 = .ok (.aload_n 0, 1) := by decide +kernel
theorem dL_law_500 : decode cL_law 500 = .ok (.iload_n 3, 1) := by decide +kernel
theorem dL_law_501 : decode cL_law 501 = .ok (.iconst 2, 1) := by decide +kernel
theorem dL_law_502 : decode cL_law 502 = .ok (.iadd, 1) := by decide +kernel
theorem dL_law_503 : decode cL_law 503 = .ok (.iaload, 1) := by decide +kernel
theorem dL_law_504 : decode cL_law 504 = .ok (.invokevirtual 69, 3) := by decide +kernel
theorem dL_law_507 : decode cL_law 507 = .ok (.aload_n 2, 1) := by decide +kernel
theorem dL_law_508 : decode cL_law 508 = .ok (.aload_n 0, 1) := by decide +kernel
theorem dL_law_509 : decode cL_law 509 = .ok (.iload_n 3, 1) := by decide +kernel
theorem dL_law_510 : decode cL_law 510 = .ok (.iconst 1, 1) := by decide +kernel
theorem dL_law_511 : decode cL_law 511 = .ok (.iadd, 1) := by decide +kernel
theorem dL_law_512 : decode cL_law 512 = .ok (.iaload, 1) := by decide +kernel
theorem dL_law_513 : decode cL_law 513 = .ok (.aload_n 0, 1) := by decide +kernel
theorem dL_law_514 : decode cL_law 514 = .ok (.iload_n 3, 1) := by decide +kernel
theorem dL_law_515 : decode cL_law 515 = .ok (.iconst 2, 1) := by decide +kernel
theorem dL_law_516 : decode cL_law 516 = .ok (.iadd, 1) := by decide +kernel
theorem dL_law_517 : decode cL_law 517 = .ok (.iaload, 1) := by decide +kernel
theorem dL_law_518 : decode cL_law 518 = .ok (.invokevirtual 72, 3) := by decide +kernel
theorem dL_law_521 : decode cL_law 521 = .ok (.if_icmp .eq 205, 3) := by decide +kernel
theorem dL_law_524 : decode cL_law 524 = .ok (.iconst 0, 1) := by decide +kernel
theorem dL_law_525 : decode cL_law 525 = .ok (.ireturn, 1) := by decide +kernel
theorem dL_law_526 : decode cL_law 526 = .ok (.aload_n 1, 1) := by decide +kernel
theorem dL_law_527 : decode cL_law 527 = .ok (.invokevirtual 73, 3) := by decide +kernel
theorem dL_law_530 : decode cL_law 530 = .ok (.aload_n 2, 1) := by decide +kernel
theorem dL_law_531 : decode cL_law 531 = .ok (.invokevirtual 76, 3) := by decide +kernel
theorem dL_law_534 : decode cL_law 534 = .ok (.if_icmp .eq 192, 3) := by decide +kernel
theorem dL_law_537 : decode cL_law 537 = .ok (.iconst 0, 1) := by decide +kernel
theorem dL_law_538 : decode cL_law 538 = .ok (.ireturn, 1) := by decide +kernel
theorem dL_law_539 : decode cL_law 539 = .ok (.aload_n 1, 1) := by decide +kernel
theorem dL_law_540 : decode cL_law 540 = .ok (.invokevirtual 77, 3) := by decide +kernel
theorem dL_law_543 : decode cL_law 543 = .ok (.aload_n 2, 1) := by decide +kernel
theorem dL_law_544 : decode cL_law 544 = .ok (.invokevirtual 80, 3) := by decide +kernel
theorem dL_law_547 : decode cL_law 547 = .ok (.if_icmp .eq 179, 3) := by decide +kernel
theorem dL_law_550 : decode cL_law 550 = .ok (.iconst 0, 1) := by decide +kernel
theorem dL_law_551 : decode cL_law 551 = .ok (.ireturn, 1) := by decide +kernel
theorem dL_law_552 : decode cL_law 552 = .ok (.aload_n 1, 1) := by decide +kernel
theorem dL_law_553 : decode cL_law 553 = .ok (.aload_n 0, 1) := by decide +kernel
theorem dL_law_554 : decode cL_law 554 = .ok (.iload_n 3, 1) := by decide +kernel
theorem dL_law_555 : decode cL_law 555 = .ok (.iconst 1, 1) := by decide +kernel
theorem dL_law_556 : decode cL_law 556 = .ok (.iadd, 1) := by decide +kernel
theorem dL_law_557 : decode cL_law 557 = .ok (.iaload, 1) := by decide +kernel
theorem dL_law_558 : decode cL_law 558 = .ok (.aload_n 0, 1) := by decide +kernel
theorem dL_law_559 : decode cL_law 559 = .ok (.iload_n 3, 1) := by decide +kernel
theorem dL_law_560 : decode cL_law 560 = .ok (.iconst 2, 1) := by decide +kernel
theorem dL_law_561 : decode cL_law 561 = .ok (.iadd, 1) := by decide +kernel
theorem dL_law_562 : decode cL_law 562 = .ok (.iaload, 1) := by decide +kernel
theorem dL_law_563 : decode cL_law 563 = .ok (.invokevirtual 81, 3) := by decide +kernel
theorem dL_law_566 : decode cL_law 566 = .ok (.aload_n 2, 1) := by decide +kernel
theorem dL_law_567 : decode cL_law 567 = .ok (.aload_n 0, 1) := by decide +kernel
theorem dL_law_568 : decode cL_law 568 = .ok (.iload_n 3, 1) := by decide +kernel
theorem dL_law_569 : decode cL_law 569 = .ok (.iconst 1, 1) := by decide +kernel
theorem dL_law_570 : decode cL_law 570 = .ok (.iadd, 1) := by decide +kernel
theorem dL_law_571 : decode cL_law 571 = .ok (.iaload, 1) := by decide +kernel
theorem dL_law_572 : decode cL_law 572 = .ok (.aload_n 0, 1) := by decide +kernel
theorem dL_law_573 : decode cL_law 573 = .ok (.iload_n 3, 1) := by decide +kernel
theorem dL_law_574 : decode cL_law 574 = .ok (.iconst 2, 1) := by decide +kernel
theorem dL_law_575 : decode cL_law 575 = .ok (.iadd, 1) := by decide +kernel
theorem dL_law_576 : decode cL_law 576 = .ok (.iaload, 1) := by decide +kernel
theorem dL_law_577 : decode cL_law 577 = .ok (.invokevirtual 84, 3) := by decide +kernel
theorem dL_law_580 : decode cL_law 580 = .ok (.if_icmp .eq 146, 3) := by decide +kernel
theorem dL_law_583 : decode cL_law 583 = .ok (.iconst 0, 1) := by decide +kernel
theorem dL_law_584 : decode cL_law 584 = .ok (.ireturn, 1) := by decide +kernel
theorem dL_law_585 : decode cL_law 585 = .ok (.aload_n 1, 1) := by decide +kernel
theorem dL_law_586 : decode cL_law 586 = .ok (.aload_n 0, 1) := by decide +kernel
theorem dL_law_587 : decode cL_law 587 = .ok (.iload_n 3, 1) := by decide +kernel
theorem dL_law_588 : decode cL_law 588 = .ok (.iconst 1, 1) := by decide +kernel
theorem dL_law_589 : decode cL_law 589 = .ok (.iadd, 1) := by decide +kernel
theorem dL_law_590 : decode cL_law 590 = .ok (.iaload, 1) := by decide +kernel
theorem dL_law_591 : decode cL_law 591 = .ok (.aload_n 0, 1) := by decide +kernel
theorem dL_law_592 : decode cL_law 592 = .ok (.iload_n 3, 1) := by decide +kernel
theorem dL_law_593 : decode cL_law 593 = .ok (.iconst 2, 1) := by decide +kernel
theorem dL_law_594 : decode cL_law 594 = .ok (.iadd, 1) := by decide +kernel
theorem dL_law_595 : decode cL_law 595 = .ok (.iaload, 1) := by decide +kernel
theorem dL_law_596 : decode cL_law 596 = .ok (.invokevirtual 85, 3) := by decide +kernel
theorem dL_law_599 : decode cL_law 599 = .ok (.aload_n 2, 1) := by decide +kernel
theorem dL_law_600 : decode cL_law 600 = .ok (.aload_n 0, 1) := by decide +kernel
theorem dL_law_601 : decode cL_law 601 = .ok (.iload_n 3, 1) := by decide +kernel
theorem dL_law_602 : decode cL_law 602 = .ok (.iconst 1, 1) := by decide +kernel
theorem dL_law_603 : decode cL_law 603 = .ok (.iadd, 1) := by decide +kernel
theorem dL_law_604 : decode cL_law 604 = .ok (.iaload, 1) := by decide +kernel
theorem dL_law_605 : decode cL_law 605 = .ok (.aload_n 0, 1) := by decide +kernel
theorem dL_law_606 : decode cL_law 606 = .ok (.iload_n 3, 1) := by decide +kernel
theorem dL_law_607 : decode cL_law 607 = .ok (.iconst 2, 1) := by decide +kernel
theorem dL_law_608 : decode cL_law 608 = .ok (.iadd, 1) := by decide +kernel
theorem dL_law_609 : decode cL_law 609 = .ok (.iaload, 1) := by decide +kernel
theorem dL_law_610 : decode cL_law 610 = .ok (.invokevirtual 88, 3) := by decide +kernel
theorem dL_law_613 : decode cL_law 613 = .ok (.if_icmp .eq 113, 3) := by decide +kernel
theorem dL_law_616 : decode cL_law 616 = .ok (.iconst 0, 1) := by decide +kernel
theorem dL_law_617 : decode cL_law 617 = .ok (.ireturn, 1) := by decide +kernel
theorem dL_law_618 : decode cL_law 618 = .ok (.aload_n 1, 1) := by decide +kernel
theorem dL_law_619 : decode cL_law 619 = .ok (.invokevirtual 89, 3) := by decide +kernel
theorem dL_law_622 : decode cL_law 622 = .ok (.aload_n 2, 1) := by decide +kernel
theorem dL_law_623 : decode cL_law 623 = .ok (.invokevirtual 92, 3) := by decide +kernel
theorem dL_law_626 : decode cL_law 626 = .ok (.if_icmp .eq 100, 3) := by decide +kernel
theorem dL_law_629 : decode cL_law 629 = .ok (.iconst 0, 1) := by decide +kernel
theorem dL_law_630 : decode cL_law 630 = .ok (.ireturn, 1) := by decide +kernel
theorem dL_law_631 : decode cL_law 631 = .ok (.aload_n 1, 1) := by decide +kernel
theorem dL_law_632 : decode cL_law 632 = .ok (.aload_n 0, 1) := by decide +kernel
theorem dL_law_633 : decode cL_law 633 = .ok (.iload_n 3, 1) := by decide +kernel
theorem dL_law_634 : decode cL_law 634 = .ok (.iconst 1, 1) := by decide +kernel
theorem dL_law_635 : decode cL_law 635 = .ok (.iadd, 1) := by decide +kernel
theorem dL_law_636 : decode cL_law 636 = .ok (.iaload, 1) := by decide +kernel
theorem dL_law_637 : decode cL_law 637 = .ok (.invokevirtual 93, 3) := by decide +kernel
theorem dL_law_640 : decode cL_law 640 = .ok (.aload_n 2, 1) := by decide +kernel
theorem dL_law_641 : decode cL_law 641 = .ok (.aload_n 0, 1) := by decide +kernel
theorem dL_law_642 : decode cL_law 642 = .ok (.iload_n 3, 1) := by decide +kernel
theorem dL_law_643 : decode cL_law 643 = .ok (.iconst 1, 1) := by decide +kernel
theorem dL_law_644 : decode cL_law 644 = .ok (.iadd, 1) := by decide +kernel
theorem dL_law_645 : decode cL_law 645 = .ok (.iaload, 1) := by decide +kernel
theorem dL_law_646 : decode cL_law 646 = .ok (.invokevirtual 96, 3) := by decide +kernel
theorem dL_law_649 : decode cL_law 649 = .ok (.if_icmp .eq 77, 3) := by decide +kernel
theorem dL_law_652 : decode cL_law 652 = .ok (.iconst 0, 1) := by decide +kernel
theorem dL_law_653 : decode cL_law 653 = .ok (.ireturn, 1) := by decide +kernel
theorem dL_law_654 : decode cL_law 654 = .ok (.aload_n 1, 1) := by decide +kernel
theorem dL_law_655 : decode cL_law 655 = .ok (.aload_n 0, 1) := by decide +kernel
theorem dL_law_656 : decode cL_law 656 = .ok (.iload_n 3, 1) := by decide +kernel
theorem dL_law_657 : decode cL_law 657 = .ok (.iconst 1, 1) := by decide +kernel
theorem dL_law_658 : decode cL_law 658 = .ok (.iadd, 1) := by decide +kernel
theorem dL_law_659 : decode cL_law 659 = .ok (.iaload, 1) := by decide +kernel
theorem dL_law_660 : decode cL_law 660 = .ok (.invokevirtual 97, 3) := by decide +kernel
theorem dL_law_663 : decode cL_law 663 = .ok (.aload_n 2, 1) := by decide +kernel
theorem dL_law_664 : decode cL_law 664 = .ok (.aload_n 0, 1) := by decide +kernel
theorem dL_law_665 : decode cL_law 665 = .ok (.iload_n 3, 1) := by decide +kernel
theorem dL_law_666 : decode cL_law 666 = .ok (.iconst 1, 1) := by decide +kernel
theorem dL_law_667 : decode cL_law 667 = .ok (.iadd, 1) := by decide +kernel
theorem dL_law_668 : decode cL_law 668 = .ok (.iaload, 1) := by decide +kernel
theorem dL_law_669 : decode cL_law 669 = .ok (.invokevirtual 100, 3) := by decide +kernel
theorem dL_law_672 : decode cL_law 672 = .ok (.if_icmp .eq 54, 3) := by decide +kernel
theorem dL_law_675 : decode cL_law 675 = .ok (.iconst 0, 1) := by decide +kernel
theorem dL_law_676 : decode cL_law 676 = .ok (.ireturn, 1) := by decide +kernel
theorem dL_law_677 : decode cL_law 677 = .ok (.aload_n 1, 1) := by decide +kernel
theorem dL_law_678 : decode cL_law 678 = .ok (.invokevirtual 101, 3) := by decide +kernel
theorem dL_law_681 : decode cL_law 681 = .ok (.aload_n 2, 1) := by decide +kernel
theorem dL_law_682 : decode cL_law 682 = .ok (.invokevirtual 104, 3) := by decide +kernel
theorem dL_law_685 : decode cL_law 685 = .ok (.if_icmp .eq 41, 3) := by decide +kernel
theorem dL_law_688 : decode cL_law 688 = .ok (.iconst 0, 1) := by decide +kernel
theorem dL_law_689 : decode cL_law 689 = .ok (.ireturn, 1) := by decide +kernel
theorem dL_law_690 : decode cL_law 690 = .ok (.aload_n 1, 1) := by decide +kernel
theorem dL_law_691 : decode cL_law 691 = .ok (.aload_n 0, 1) := by decide +kernel
theorem dL_law_692 : decode cL_law 692 = .ok (.iload_n 3, 1) := by decide +kernel
theorem dL_law_693 : decode cL_law 693 = .ok (.iconst 1, 1) := by decide +kernel
theorem dL_law_694 : decode cL_law 694 = .ok (.iadd, 1) := by decide +kernel
theorem dL_law_695 : decode cL_law 695 = .ok (.iaload, 1) := by decide +kernel
theorem dL_law_696 : decode cL_law 696 = .ok (.invokevirtual 105, 3) := by decide +kernel
theorem dL_law_699 : decode cL_law 699 = .ok (.aload_n 2, 1) := by decide +kernel
theorem dL_law_700 : decode cL_law 700 = .ok (.aload_n 0, 1) := by decide +kernel
theorem dL_law_701 : decode cL_law 701 = .ok (.iload_n 3, 1) := by decide +kernel
theorem dL_law_702 : decode cL_law 702 = .ok (.iconst 1, 1) := by decide +kernel
theorem dL_law_703 : decode cL_law 703 = .ok (.iadd, 1) := by decide +kernel
theorem dL_law_704 : decode cL_law 704 = .ok (.iaload, 1) := by decide +kernel
theorem dL_law_705 : decode cL_law 705 = .ok (.invokevirtual 108, 3) := by decide +kernel
theorem dL_law_708 : decode cL_law 708 = .ok (.if_icmp .eq 18, 3) := by decide +kernel
theorem dL_law_711 : decode cL_law 711 = .ok (.iconst 0, 1) := by decide +kernel
theorem dL_law_712 : decode cL_law 712 = .ok (.ireturn, 1) := by decide +kernel
theorem dL_law_713 : decode cL_law 713 = .ok (.aload_n 1, 1) := by decide +kernel
theorem dL_law_714 : decode cL_law 714 = .ok (.invokevirtual 109, 3) := by decide +kernel
theorem dL_law_717 : decode cL_law 717 = .ok (.aload_n 2, 1) := by decide +kernel
theorem dL_law_718 : decode cL_law 718 = .ok (.invokevirtual 112, 3) := by decide +kernel
theorem dL_law_721 : decode cL_law 721 = .ok (.if_icmp .eq 5, 3) := by decide +kernel
theorem dL_law_724 : decode cL_law 724 = .ok (.iconst 0, 1) := by decide +kernel
theorem dL_law_725 : decode cL_law 725 = .ok (.ireturn, 1) := by decide +kernel
theorem dL_law_726 : decode cL_law 726 = .ok (.iinc 3 4, 3) := by decide +kernel
theorem dL_law_729 : decode cL_law 729 = .ok (.goto (-711), 3) := by decide +kernel
theorem dL_law_732 : decode cL_law 732 = .ok (.iconst 1, 1) := by decide +kernel
theorem dL_law_733 : decode cL_law 733 = .ok (.ireturn, 1) := by decide +kernel
end
section
/-! numbers: every int of the machine is iI of a whole number -/
def iI (z : Int) : Int32 := Int32.ofInt z
theorem iI_add (a b : Int) : iI a + iI b = iI (a + b) := (Int32.ofInt_add a b).symm
theorem iI_sub (a b : Int) : iI a - iI b = iI (a - b) := (Int32.ofInt_sub a b).symm
theorem iI_mul (a b : Int) : iI a * iI b = iI (a * b) := (Int32.ofInt_mul a b).symm
theorem iI_of (x : Int32) : x = iI x.toInt := (Int32.ofInt_toInt x).symm
theorem iI_rg (x : Int32) : -2147483648 ≤ x.toInt ∧ x.toInt < 2147483648 := ⟨by have := Int32.le_toInt x; simpa using this, by have := Int32.toInt_lt x; simpa using this⟩
theorem iI_toInt {a : Int} (h : -2147483648 ≤ a ∧ a < 2147483648) : (iI a).toInt = a := Int32.toInt_ofInt_of_le (by simpa using h.1) (by simpa using h.2)
theorem iI_lt {a b : Int} (ha : -2147483648 ≤ a ∧ a < 2147483648) (hb : -2147483648 ≤ b ∧ b < 2147483648) : iI a < iI b ↔ a < b := by
  rw [Int32.lt_iff_toInt_lt, iI_toInt ha, iI_toInt hb]
theorem iI_le {a b : Int} (ha : -2147483648 ≤ a ∧ a < 2147483648) (hb : -2147483648 ≤ b ∧ b < 2147483648) : iI a ≤ iI b ↔ a ≤ b := by
  rw [Int32.le_iff_toInt_le, iI_toInt ha, iI_toInt hb]
theorem iI_eq {a b : Int} (ha : -2147483648 ≤ a ∧ a < 2147483648) (hb : -2147483648 ≤ b ∧ b < 2147483648) : iI a = iI b ↔ a = b := by
  rw [← Int32.toInt_inj, iI_toInt ha, iI_toInt hb]
theorem iI_0 : (0 : Int32) = iI 0 := rfl
theorem iI_clamp {j : Nat} (h : (j : Int) < 2147483648) : (iI (j : Int)).toNatClampNeg = j := by
  show (iI (j : Int)).toInt.toNat = j
  rw [iI_toInt ⟨by omega, h⟩]
  rfl
theorem iI_in {i : Int} {j n : Nat} (hi : i = (j : Int)) (hj : j < n) (hn : (j : Int) < 2147483648) : vp_in (iI i) n ∧ (iI i).toNatClampNeg = j := by
  subst hi
  refine ⟨fun h => ?_, iI_clamp hn⟩
  rcases h with h | h
  · rw [iI_0, iI_lt ⟨by omega, hn⟩ ⟨by omega, by omega⟩] at h
    omega
  · rw [iI_clamp hn] at h
    omega
/-! the world: what lies at the places behind the law's first free address -/
abbrev Wd : Type := Nat → Option va_E
abbrev Gc : Type := va_G × (Nat → ClassId) × Nat × (Nat → Nat)
abbrev gD (G : Gc) : va_G := G.1
abbrev gK (G : Gc) : Nat → ClassId := G.2.1
abbrev gb (G : Gc) : Nat := G.2.2.1
abbrev gT (G : Gc) : Nat → Nat := G.2.2.2
def gtys (G : Gc) : List (ClassId × FieldType) := [(gK G 0, .int), (gK G 1, .char), (gK G 2, .boolean), (gK G 3, .object RX9)]
def gO (G : Gc) : Nat → Prop := fun q => gb G ≤ q
def wdH (G : Gc) (E : Wd) (H : Heap) : Prop := ∀ (k : Nat) (x : va_E), E k = some x → va_at (gD G) vwCl (gb G + k, x) H
abbrev AI (G : Gc) (n : Nat) (g : Nat → Int) : va_E := .inl (gK G 0, n, .inl (fun j => iI (g j)))
abbrev AC (G : Gc) (n : Nat) (g : Nat → Int) : va_E := .inl (gK G 1, n, .inl (fun j => iI (g j)))
abbrev AZ (G : Gc) (n : Nat) (g : Nat → Int) : va_E := .inl (gK G 2, n, .inl (fun j => iI (g j)))
abbrev AS (G : Gc) (n : Nat) (g : Nat → Option Nat) : va_E := .inl (gK G 3, n, .inr (.inr (.inr (.inr (fun j => (g j).map (fun o => gb G + o))))))
/-! the static tables -/
def tbN : Nat → String
  | 0 => "LEAST_VALUES"
  | 1 => "GREATEST_VALUES"
  | _ => "FIRST_VALUES"
def tbV (i j : Nat) : Int := (([[20, 0, 0, 0, 0, 10, 1, 1], [500, 20, 200, 50, 50, 1000, 2000, 1000], [100, 2, 10, 1, 0, 360, 500, 60]] : List (List Int)).getD i []).getD j 0
def Zf (G : Gc) (U : State) (H : Heap) : Prop := ∀ i, i < 3 → va_Z RX11 (tbN i) "[I" (.ref (gT G i)) (gO G) U H ∧ va_T .int (gT G i) 8 (fun j => .int (iI (tbV i j))) (gO G) U H
def KZ (G : Gc) (U : State) (H : Heap) : Prop := va_K (gD G) vwCl (gtys G) U ∧ Zf G U H ∧ (∀ w ∈ TN, va_Nw w U) ∧ va_AO RX9 U
theorem TN_warm {s U : State} (hW : s.WarmedH U.vm) (h : ∀ w ∈ TN, va_Nw w s) : ∀ w ∈ TN, va_Nw w U := by
  intro w hw
  have h1 := h w hw
  have h2 := (List.mem_filter.mp hw).2
  cases w <;> first | exact va_Nw.warmM hW h1 | exact va_Nw.warmF hW h1 | cases h2
theorem TN_same {u U : State} (hv : u.vm = U.vm) (h : ∀ w ∈ TN, va_Nw w u) : ∀ w ∈ TN, va_Nw w U := by
  intro w hw
  have h1 := h w hw
  have h2 := (List.mem_filter.mp hw).2
  cases w <;> first | exact va_Nw.same rfl hv h1 | cases h2
theorem KZ.move {G : Gc} {s U : State} {H H1 : Heap} (hW : s.WarmedH U.vm) (hh : ∀ a : Nat, a < H.size → ¬ gO G a → H1[a]? = H[a]?) (h : KZ G s H) : KZ G U H1 :=
  ⟨va_K.moved hW.alike h.1, fun i hi => ⟨(va_Z.moved hW.alike (h.2.1 i hi).1).kept hh, (va_T.moved hW.alike (h.2.1 i hi).2).kept hh⟩, TN_warm hW h.2.2.1, va_AO.moved hW.alike h.2.2.2⟩
theorem KZ.calling {G : Gc} {U : State} {H : Heap} {g : JFrame} {mk : MethodId} {a : Array Value} (h : KZ G U H) : KZ G (U.calling g mk a) H :=
  ⟨va_K.moved (u := U) (U := U.calling g mk a) (Vm.Alike.refl U.vm) h.1, fun i hi => ⟨va_Z.moved (u := U) (U := U.calling g mk a) (Vm.Alike.refl U.vm) (h.2.1 i hi).1, va_T.moved (u := U) (U := U.calling g mk a) (Vm.Alike.refl U.vm) (h.2.1 i hi).2⟩, TN_same (u := U) (U := U.calling g mk a) rfl h.2.2.1, va_AO.moved (u := U) (U := U.calling g mk a) (Vm.Alike.refl U.vm) h.2.2.2⟩
/-! the locals: a place each, what stands there where it is known -/
def al (ls : List (Option Value)) : List (Nat × Value) := (List.range ls.length).filterMap (fun i => (ls.getD i none).map (fun v => (i, v)))
theorem al_mem {ls : List (Option Value)} {q : Nat × Value} : q ∈ al ls ↔ ls[q.1]? = some (some q.2) := by
  unfold al
  rw [List.mem_filterMap]
  constructor
  · rintro ⟨i, hi, h⟩
    rw [Option.map_eq_some_iff] at h
    obtain ⟨v, hv, rfl⟩ := h
    have hl := List.mem_range.mp hi
    rw [List.getD_eq_getElem?_getD] at hv
    rw [List.getElem?_eq_getElem hl] at hv ⊢
    simpa using hv
  · intro h
    have hl : q.1 < ls.length := (List.getElem?_eq_some_iff.mp h).1
    refine ⟨q.1, List.mem_range.mpr hl, ?_⟩
    rw [List.getD_eq_getElem?_getD, h]
    rfl
def lsH (L : Array Slot) (ls : List (Option Value)) : Prop := lv_has L ls.length (al ls)
def c1 : Option Value → Bool
  | some (.long _) => false
  | some (.double _) => false
  | _ => true
theorem lsH.get {L : Array Slot} {ls : List (Option Value)} {i : Nat} {v : Value} (h : lsH L ls) (hi : ls[i]? = some (some v)) : L[i]? = some (.val v) := h.2.2 (i, v) (al_mem.mpr hi)
def SetA (i : Nat) (v : Value) (ls ls' : List (Option Value)) : Prop := i < ls.length ∧ ls' = ls.set i (some v) ∧ ∀ j w, j + 1 = i → ls[j]? = some (some w) → ¬ w.category = 2
theorem lsH.set {L' : Array Slot} {ls ls' : List (Option Value)} {i : Nat} {v : Value} (hs : SetA i v ls ls') (h : lv_has L' ls.length ((i, v) :: (al ls).filter (fun q => !(q.1 == i) && !(q.1 + 1 == i && q.2.category == 2)))) : lsH L' ls' := by
  obtain ⟨h1, rfl, h2⟩ := hs
  refine ⟨by rw [List.length_set]; exact h.1, h.2.1, fun q hq => ?_⟩
  rw [al_mem] at hq
  by_cases he : q.1 = i
  · have e : q.2 = v := by
      rw [he, List.getElem?_set_self h1] at hq
      exact (Option.some.inj (Option.some.inj hq)).symm
    have := h.2.2 (i, v) List.mem_cons_self
    rw [he, e]; exact this
  · rw [List.getElem?_set_ne (Ne.symm he)] at hq
    refine h.2.2 q (List.mem_cons_of_mem _ (List.mem_filter.mpr ⟨al_mem.mpr hq, ?_⟩))
    have e2 : (q.1 + 1 == i && q.2.category == 2) = false := by
      by_cases h3 : q.1 + 1 = i
      · have := h2 q.1 q.2 h3 hq
        simp [this]
      · simp [h3]
    simp [he, e2]
def SetL (i : Nat) (v : Value) (ls ls' : List (Option Value)) : Prop := i + 1 < ls.length ∧ ls' = (ls.set i (some v)).set (i + 1) none ∧ ∀ j w, j + 1 = i → ls[j]? = some (some w) → ¬ w.category = 2
theorem lsH.setL {L' : Array Slot} {ls ls' : List (Option Value)} {i : Nat} {v : Value} (hs : SetL i v ls ls') (h : lv_has L' ls.length ((i, v) :: (al ls).filter (fun q => !(q.1 == i) && (!(q.1 == i + 1) && !(q.1 + 1 == i && q.2.category == 2))))) : lsH L' ls' := by
  obtain ⟨h1, rfl, h2⟩ := hs
  refine ⟨by rw [List.length_set, List.length_set]; exact h.1, h.2.1, fun q hq => ?_⟩
  rw [al_mem] at hq
  by_cases he1 : q.1 = i + 1
  · rw [he1, List.getElem?_set_self (by rw [List.length_set]; exact h1)] at hq
    cases hq
  · rw [List.getElem?_set_ne (Ne.symm he1)] at hq
    by_cases he : q.1 = i
    · have e : q.2 = v := by
        rw [he, List.getElem?_set_self (by omega)] at hq
        exact (Option.some.inj (Option.some.inj hq)).symm
      have := h.2.2 (i, v) List.mem_cons_self
      rw [he, e]; exact this
    · rw [List.getElem?_set_ne (Ne.symm he)] at hq
      refine h.2.2 q (List.mem_cons_of_mem _ (List.mem_filter.mpr ⟨al_mem.mpr hq, ?_⟩))
      have e2 : (q.1 + 1 == i && q.2.category == 2) = false := by
        by_cases h3 : q.1 + 1 = i
        · have := h2 q.1 q.2 h3 hq
          simp [this]
        · simp [h3]
      simp [he, he1, e2]
theorem c1_cat {w : Value} (h : c1 (some w) = true) : ¬ w.category = 2 := by
  cases w <;> simp_all [c1, Value.category]
theorem SetA.mk0 {v : Value} {a : Option Value} {l : List (Option Value)} : SetA 0 v (a :: l) (some v :: l) := ⟨by simp, rfl, fun j w h => by omega⟩
theorem SetA.mk {pre l : List (Option Value)} {a b : Option Value} {v : Value} {i : Nat} (hi : pre.length + 1 = i) (h : c1 a = true) : SetA i v (pre ++ a :: b :: l) (pre ++ a :: some v :: l) := by
  subst hi
  refine ⟨by simp, ?_, fun j w hj h9 => ?_⟩
  · simp [List.set_append]
  · have : j = pre.length := by omega
    subst this
    rw [List.getElem?_append_right (Nat.le_refl _)] at h9
    simp at h9
    subst h9
    exact c1_cat h
theorem set_pre {α : Type} (pre m : List α) (k : Nat) (x : α) : (pre ++ m).set (pre.length + k) x = pre ++ m.set k x := by
  induction pre with
  | nil => simp
  | cons a p ih =>
    rw [List.length_cons, show p.length + 1 + k = (p.length + k) + 1 by omega]
    simp only [List.cons_append, List.set_cons_succ, ih]
theorem SetL.mk {pre l : List (Option Value)} {a b d : Option Value} {v : Value} {i : Nat} (hi : pre.length + 1 = i) (h : c1 a = true) : SetL i v (pre ++ a :: b :: d :: l) (pre ++ a :: some v :: none :: l) := by
  subst hi
  refine ⟨by simp; omega, ?_, fun j w hj h9 => ?_⟩
  · rw [set_pre, show pre.length + 1 + 1 = pre.length + 2 from rfl, set_pre]
    rfl
  · have : j = pre.length := by omega
    subst this
    rw [List.getElem?_append_right (Nat.le_refl _)] at h9
    simp at h9
    subst h9
    exact c1_cat h
/-! the judgement: from this place of a method, with this world, these locals and this stack, the machine comes to its goal -/
abbrev Fx : Type := Program × Launch × Env × Room × State × MethodId × Array Value × List Frame × Method × Code × Gc × (State → Prop)
abbrev fP (X : Fx) : Program := X.1
abbrev fL (X : Fx) : Launch := X.2.1
abbrev fE (X : Fx) : Env := X.2.2.1
abbrev fR (X : Fx) : Room := X.2.2.2.1
abbrev fS (X : Fx) : State := X.2.2.2.2.1
abbrev fM (X : Fx) : MethodId := X.2.2.2.2.2.1
abbrev fA (X : Fx) : Array Value := X.2.2.2.2.2.2.1
abbrev fB (X : Fx) : List Frame := X.2.2.2.2.2.2.2.1
abbrev fMe (X : Fx) : Method := X.2.2.2.2.2.2.2.2.1
abbrev fC (X : Fx) : Code := X.2.2.2.2.2.2.2.2.2.1
abbrev fG (X : Fx) : Gc := X.2.2.2.2.2.2.2.2.2.2.1
abbrev fQ (X : Fx) : State → Prop := X.2.2.2.2.2.2.2.2.2.2.2
abbrev WX (X : Fx) (H : Heap) (locs : List Loc) (z : Nat × Nat × Nat) (pc : Nat) (L : Array Slot) (st : List Value) : Prop := W (fP X) (fL X) (fE X) (fR X) (fS X) (fM X) (fA X) (fB X) (fMe X) (fC X) H locs z.2.1 z.2.2 (fQ X) (F0 (fM X) pc L st)
def Rd (X : Fx) (E : Wd) (z : Nat × Nat × Nat) (ls : List (Option Value)) (H : Heap) (locs : List Loc) (L : Array Slot) : Prop :=
  wdH (fG X) E H ∧ H.size = gb (fG X) + z.1 ∧ va_S (gO (fG X)) (fS X).heap H locs ∧ lsH L ls ∧ ls.length = (fC X).maxLocals
def V (X : Fx) (E : Wd) (z : Nat × Nat × Nat) (pc : Nat) (ls : List (Option Value)) (st : List Value) : Prop :=
  ∀ (H : Heap) (locs : List Loc) (L : Array Slot), Rd X E z ls H locs L → WX X H locs z pc L st
def Cx (X : Fx) (cc : ByteArray) (ow : String) : Prop :=
  (fP X).tables.exec = Jvm.exec ∧ (fC X).code = cc ∧ (fS X).vm.findClass ow = some (fM X).cls ∧ (∀ w ∈ TB, w.before (fA X) (fS X) = true) ∧ KZ (fG X) (fS X) (fS X).heap ∧ gb (fG X) ≤ (fS X).heap.size
/-- a step that touches neither the heap nor the locals -/
theorem V.st {X : Fx} {E : Wd} {z : Nat × Nat × Nat} {pc pc' : Nat} {ls : List (Option Value)} {st st' : List Value} (h : ∀ (H : Heap) (locs : List Loc) (L : Array Slot), lsH L ls → WX X H locs z pc' L st' → WX X H locs z pc L st) (k : V X E z pc' ls st') : V X E z pc ls st :=
  fun H locs L h1 => h H locs L h1.2.2.2.1 (k H locs L h1)
/-- a step that stores a local -/
theorem V.lo {X : Fx} {E : Wd} {z : Nat × Nat × Nat} {pc pc' : Nat} {ls ls' : List (Option Value)} {st st' : List Value} (hl : ls'.length = ls.length) (h : ∀ (H : Heap) (locs : List Loc) (L : Array Slot), lsH L ls → (∀ L', lsH L' ls' → WX X H locs z pc' L' st') → WX X H locs z pc L st) (k : V X E z pc' ls' st') : V X E z pc ls st :=
  fun H locs L h1 => h H locs L h1.2.2.2.1 (fun L' hL' => k H locs L' ⟨h1.1, h1.2.1, h1.2.2.1, hL', hl.trans h1.2.2.2.2⟩)
end
section
theorem iI_char {a : Int} (h : 0 ≤ a ∧ a < 65536) : ((iI a).toUInt32 % 65536).toInt32 = iI a := by
  obtain ⟨n, rfl⟩ := Int.eq_ofNat_of_zero_le h.1
  have e : iI (n : Int) = nI n := by
    unfold iI nI
    exact (Int32.ofInt_eq_ofNat (n := n))
  rw [e]
  have h2 : n < 65536 := by omega
  have := pk_char (nI n)
  rw [this, pk_tn (by omega), Nat.mod_eq_of_lt h2]
section Rows
variable {X : Fx} {E : Wd} {z : Nat × Nat × Nat} {pc : Nat} {ls ls' : List (Option Value)} {st : List Value} {cc : ByteArray} {ow : String}
theorem ga0 {v : Value} {l : List (Option Value)} : (some v :: l)[0]? = some (some v) := rfl
theorem gf0 {v : Value} {l : List Value} : (v :: l)[0]? = some v := rfl
theorem sa0 {v : Value} {a : Option Value} {l : List (Option Value)} : SetA 0 v (a :: l) (some v :: l) := SetA.mk0
theorem ga1 {x0 : Option Value} {v : Value} {l : List (Option Value)} : (x0 :: some v :: l)[1]? = some (some v) := rfl
theorem gf1 {x0 v : Value} {l : List Value} : (x0 :: v :: l)[1]? = some v := rfl
theorem sa1 {x0 b : Option Value} {v : Value} {l : List (Option Value)} (h : c1 x0 = true) : SetA 1 v (x0 :: b :: l) (x0 :: some v :: l) := SetA.mk (pre := []) rfl h
theorem sl1 {x0 b d : Option Value} {v : Value} {l : List (Option Value)} (h : c1 x0 = true) : SetL 1 v (x0 :: b :: d :: l) (x0 :: some v :: none :: l) := SetL.mk (pre := []) rfl h
theorem ga2 {x0 x1 : Option Value} {v : Value} {l : List (Option Value)} : (x0 :: x1 :: some v :: l)[2]? = some (some v) := rfl
theorem gf2 {x0 x1 v : Value} {l : List Value} : (x0 :: x1 :: v :: l)[2]? = some v := rfl
theorem sa2 {x0 x1 b : Option Value} {v : Value} {l : List (Option Value)} (h : c1 x1 = true) : SetA 2 v (x0 :: x1 :: b :: l) (x0 :: x1 :: some v :: l) := SetA.mk (pre := [x0]) rfl h
theorem sl2 {x0 x1 b d : Option Value} {v : Value} {l : List (Option Value)} (h : c1 x1 = true) : SetL 2 v (x0 :: x1 :: b :: d :: l) (x0 :: x1 :: some v :: none :: l) := SetL.mk (pre := [x0]) rfl h
theorem ga3 {x0 x1 x2 : Option Value} {v : Value} {l : List (Option Value)} : (x0 :: x1 :: x2 :: some v :: l)[3]? = some (some v) := rfl
theorem gf3 {x0 x1 x2 v : Value} {l : List Value} : (x0 :: x1 :: x2 :: v :: l)[3]? = some v := rfl
theorem sa3 {x0 x1 x2 b : Option Value} {v : Value} {l : List (Option Value)} (h : c1 x2 = true) : SetA 3 v (x0 :: x1 :: x2 :: b :: l) (x0 :: x1 :: x2 :: some v :: l) := SetA.mk (pre := [x0, x1]) rfl h
theorem sl3 {x0 x1 x2 b d : Option Value} {v : Value} {l : List (Option Value)} (h : c1 x2 = true) : SetL 3 v (x0 :: x1 :: x2 :: b :: d :: l) (x0 :: x1 :: x2 :: some v :: none :: l) := SetL.mk (pre := [x0, x1]) rfl h
theorem ga4 {x0 x1 x2 x3 : Option Value} {v : Value} {l : List (Option Value)} : (x0 :: x1 :: x2 :: x3 :: some v :: l)[4]? = some (some v) := rfl
theorem gf4 {x0 x1 x2 x3 v : Value} {l : List Value} : (x0 :: x1 :: x2 :: x3 :: v :: l)[4]? = some v := rfl
theorem sa4 {x0 x1 x2 x3 b : Option Value} {v : Value} {l : List (Option Value)} (h : c1 x3 = true) : SetA 4 v (x0 :: x1 :: x2 :: x3 :: b :: l) (x0 :: x1 :: x2 :: x3 :: some v :: l) := SetA.mk (pre := [x0, x1, x2]) rfl h
theorem sl4 {x0 x1 x2 x3 b d : Option Value} {v : Value} {l : List (Option Value)} (h : c1 x3 = true) : SetL 4 v (x0 :: x1 :: x2 :: x3 :: b :: d :: l) (x0 :: x1 :: x2 :: x3 :: some v :: none :: l) := SetL.mk (pre := [x0, x1, x2]) rfl h
theorem ga5 {x0 x1 x2 x3 x4 : Option Value} {v : Value} {l : List (Option Value)} : (x0 :: x1 :: x2 :: x3 :: x4 :: some v :: l)[5]? = some (some v) := rfl
theorem gf5 {x0 x1 x2 x3 x4 v : Value} {l : List Value} : (x0 :: x1 :: x2 :: x3 :: x4 :: v :: l)[5]? = some v := rfl
theorem sa5 {x0 x1 x2 x3 x4 b : Option Value} {v : Value} {l : List (Option Value)} (h : c1 x4 = true) : SetA 5 v (x0 :: x1 :: x2 :: x3 :: x4 :: b :: l) (x0 :: x1 :: x2 :: x3 :: x4 :: some v :: l) := SetA.mk (pre := [x0, x1, x2, x3]) rfl h
theorem sl5 {x0 x1 x2 x3 x4 b d : Option Value} {v : Value} {l : List (Option Value)} (h : c1 x4 = true) : SetL 5 v (x0 :: x1 :: x2 :: x3 :: x4 :: b :: d :: l) (x0 :: x1 :: x2 :: x3 :: x4 :: some v :: none :: l) := SetL.mk (pre := [x0, x1, x2, x3]) rfl h
theorem ga6 {x0 x1 x2 x3 x4 x5 : Option Value} {v : Value} {l : List (Option Value)} : (x0 :: x1 :: x2 :: x3 :: x4 :: x5 :: some v :: l)[6]? = some (some v) := rfl
theorem gf6 {x0 x1 x2 x3 x4 x5 v : Value} {l : List Value} : (x0 :: x1 :: x2 :: x3 :: x4 :: x5 :: v :: l)[6]? = some v := rfl
theorem sa6 {x0 x1 x2 x3 x4 x5 b : Option Value} {v : Value} {l : List (Option Value)} (h : c1 x5 = true) : SetA 6 v (x0 :: x1 :: x2 :: x3 :: x4 :: x5 :: b :: l) (x0 :: x1 :: x2 :: x3 :: x4 :: x5 :: some v :: l) := SetA.mk (pre := [x0, x1, x2, x3, x4]) rfl h
theorem sl6 {x0 x1 x2 x3 x4 x5 b d : Option Value} {v : Value} {l : List (Option Value)} (h : c1 x5 = true) : SetL 6 v (x0 :: x1 :: x2 :: x3 :: x4 :: x5 :: b :: d :: l) (x0 :: x1 :: x2 :: x3 :: x4 :: x5 :: some v :: none :: l) := SetL.mk (pre := [x0, x1, x2, x3, x4]) rfl h
theorem ga7 {x0 x1 x2 x3 x4 x5 x6 : Option Value} {v : Value} {l : List (Option Value)} : (x0 :: x1 :: x2 :: x3 :: x4 :: x5 :: x6 :: some v :: l)[7]? = some (some v) := rfl
theorem gf7 {x0 x1 x2 x3 x4 x5 x6 v : Value} {l : List Value} : (x0 :: x1 :: x2 :: x3 :: x4 :: x5 :: x6 :: v :: l)[7]? = some v := rfl
theorem sa7 {x0 x1 x2 x3 x4 x5 x6 b : Option Value} {v : Value} {l : List (Option Value)} (h : c1 x6 = true) : SetA 7 v (x0 :: x1 :: x2 :: x3 :: x4 :: x5 :: x6 :: b :: l) (x0 :: x1 :: x2 :: x3 :: x4 :: x5 :: x6 :: some v :: l) := SetA.mk (pre := [x0, x1, x2, x3, x4, x5]) rfl h
theorem sl7 {x0 x1 x2 x3 x4 x5 x6 b d : Option Value} {v : Value} {l : List (Option Value)} (h : c1 x6 = true) : SetL 7 v (x0 :: x1 :: x2 :: x3 :: x4 :: x5 :: x6 :: b :: d :: l) (x0 :: x1 :: x2 :: x3 :: x4 :: x5 :: x6 :: some v :: none :: l) := SetL.mk (pre := [x0, x1, x2, x3, x4, x5]) rfl h
theorem ga8 {x0 x1 x2 x3 x4 x5 x6 x7 : Option Value} {v : Value} {l : List (Option Value)} : (x0 :: x1 :: x2 :: x3 :: x4 :: x5 :: x6 :: x7 :: some v :: l)[8]? = some (some v) := rfl
theorem gf8 {x0 x1 x2 x3 x4 x5 x6 x7 v : Value} {l : List Value} : (x0 :: x1 :: x2 :: x3 :: x4 :: x5 :: x6 :: x7 :: v :: l)[8]? = some v := rfl
theorem sa8 {x0 x1 x2 x3 x4 x5 x6 x7 b : Option Value} {v : Value} {l : List (Option Value)} (h : c1 x7 = true) : SetA 8 v (x0 :: x1 :: x2 :: x3 :: x4 :: x5 :: x6 :: x7 :: b :: l) (x0 :: x1 :: x2 :: x3 :: x4 :: x5 :: x6 :: x7 :: some v :: l) := SetA.mk (pre := [x0, x1, x2, x3, x4, x5, x6]) rfl h
theorem sl8 {x0 x1 x2 x3 x4 x5 x6 x7 b d : Option Value} {v : Value} {l : List (Option Value)} (h : c1 x7 = true) : SetL 8 v (x0 :: x1 :: x2 :: x3 :: x4 :: x5 :: x6 :: x7 :: b :: d :: l) (x0 :: x1 :: x2 :: x3 :: x4 :: x5 :: x6 :: x7 :: some v :: none :: l) := SetL.mk (pre := [x0, x1, x2, x3, x4, x5, x6]) rfl h
theorem ga9 {x0 x1 x2 x3 x4 x5 x6 x7 x8 : Option Value} {v : Value} {l : List (Option Value)} : (x0 :: x1 :: x2 :: x3 :: x4 :: x5 :: x6 :: x7 :: x8 :: some v :: l)[9]? = some (some v) := rfl
theorem gf9 {x0 x1 x2 x3 x4 x5 x6 x7 x8 v : Value} {l : List Value} : (x0 :: x1 :: x2 :: x3 :: x4 :: x5 :: x6 :: x7 :: x8 :: v :: l)[9]? = some v := rfl
theorem sa9 {x0 x1 x2 x3 x4 x5 x6 x7 x8 b : Option Value} {v : Value} {l : List (Option Value)} (h : c1 x8 = true) : SetA 9 v (x0 :: x1 :: x2 :: x3 :: x4 :: x5 :: x6 :: x7 :: x8 :: b :: l) (x0 :: x1 :: x2 :: x3 :: x4 :: x5 :: x6 :: x7 :: x8 :: some v :: l) := SetA.mk (pre := [x0, x1, x2, x3, x4, x5, x6, x7]) rfl h
theorem sl9 {x0 x1 x2 x3 x4 x5 x6 x7 x8 b d : Option Value} {v : Value} {l : List (Option Value)} (h : c1 x8 = true) : SetL 9 v (x0 :: x1 :: x2 :: x3 :: x4 :: x5 :: x6 :: x7 :: x8 :: b :: d :: l) (x0 :: x1 :: x2 :: x3 :: x4 :: x5 :: x6 :: x7 :: x8 :: some v :: none :: l) := SetL.mk (pre := [x0, x1, x2, x3, x4, x5, x6, x7]) rfl h
theorem ga10 {x0 x1 x2 x3 x4 x5 x6 x7 x8 x9 : Option Value} {v : Value} {l : List (Option Value)} : (x0 :: x1 :: x2 :: x3 :: x4 :: x5 :: x6 :: x7 :: x8 :: x9 :: some v :: l)[10]? = some (some v) := rfl
theorem gf10 {x0 x1 x2 x3 x4 x5 x6 x7 x8 x9 v : Value} {l : List Value} : (x0 :: x1 :: x2 :: x3 :: x4 :: x5 :: x6 :: x7 :: x8 :: x9 :: v :: l)[10]? = some v := rfl
theorem sa10 {x0 x1 x2 x3 x4 x5 x6 x7 x8 x9 b : Option Value} {v : Value} {l : List (Option Value)} (h : c1 x9 = true) : SetA 10 v (x0 :: x1 :: x2 :: x3 :: x4 :: x5 :: x6 :: x7 :: x8 :: x9 :: b :: l) (x0 :: x1 :: x2 :: x3 :: x4 :: x5 :: x6 :: x7 :: x8 :: x9 :: some v :: l) := SetA.mk (pre := [x0, x1, x2, x3, x4, x5, x6, x7, x8]) rfl h
theorem sl10 {x0 x1 x2 x3 x4 x5 x6 x7 x8 x9 b d : Option Value} {v : Value} {l : List (Option Value)} (h : c1 x9 = true) : SetL 10 v (x0 :: x1 :: x2 :: x3 :: x4 :: x5 :: x6 :: x7 :: x8 :: x9 :: b :: d :: l) (x0 :: x1 :: x2 :: x3 :: x4 :: x5 :: x6 :: x7 :: x8 :: x9 :: some v :: none :: l) := SetL.mk (pre := [x0, x1, x2, x3, x4, x5, x6, x7, x8]) rfl h
theorem ga11 {x0 x1 x2 x3 x4 x5 x6 x7 x8 x9 x10 : Option Value} {v : Value} {l : List (Option Value)} : (x0 :: x1 :: x2 :: x3 :: x4 :: x5 :: x6 :: x7 :: x8 :: x9 :: x10 :: some v :: l)[11]? = some (some v) := rfl
theorem gf11 {x0 x1 x2 x3 x4 x5 x6 x7 x8 x9 x10 v : Value} {l : List Value} : (x0 :: x1 :: x2 :: x3 :: x4 :: x5 :: x6 :: x7 :: x8 :: x9 :: x10 :: v :: l)[11]? = some v := rfl
theorem sa11 {x0 x1 x2 x3 x4 x5 x6 x7 x8 x9 x10 b : Option Value} {v : Value} {l : List (Option Value)} (h : c1 x10 = true) : SetA 11 v (x0 :: x1 :: x2 :: x3 :: x4 :: x5 :: x6 :: x7 :: x8 :: x9 :: x10 :: b :: l) (x0 :: x1 :: x2 :: x3 :: x4 :: x5 :: x6 :: x7 :: x8 :: x9 :: x10 :: some v :: l) := SetA.mk (pre := [x0, x1, x2, x3, x4, x5, x6, x7, x8, x9]) rfl h
theorem sl11 {x0 x1 x2 x3 x4 x5 x6 x7 x8 x9 x10 b d : Option Value} {v : Value} {l : List (Option Value)} (h : c1 x10 = true) : SetL 11 v (x0 :: x1 :: x2 :: x3 :: x4 :: x5 :: x6 :: x7 :: x8 :: x9 :: x10 :: b :: d :: l) (x0 :: x1 :: x2 :: x3 :: x4 :: x5 :: x6 :: x7 :: x8 :: x9 :: x10 :: some v :: none :: l) := SetL.mk (pre := [x0, x1, x2, x3, x4, x5, x6, x7, x8, x9]) rfl h
theorem ga12 {x0 x1 x2 x3 x4 x5 x6 x7 x8 x9 x10 x11 : Option Value} {v : Value} {l : List (Option Value)} : (x0 :: x1 :: x2 :: x3 :: x4 :: x5 :: x6 :: x7 :: x8 :: x9 :: x10 :: x11 :: some v :: l)[12]? = some (some v) := rfl
theorem gf12 {x0 x1 x2 x3 x4 x5 x6 x7 x8 x9 x10 x11 v : Value} {l : List Value} : (x0 :: x1 :: x2 :: x3 :: x4 :: x5 :: x6 :: x7 :: x8 :: x9 :: x10 :: x11 :: v :: l)[12]? = some v := rfl
theorem sa12 {x0 x1 x2 x3 x4 x5 x6 x7 x8 x9 x10 x11 b : Option Value} {v : Value} {l : List (Option Value)} (h : c1 x11 = true) : SetA 12 v (x0 :: x1 :: x2 :: x3 :: x4 :: x5 :: x6 :: x7 :: x8 :: x9 :: x10 :: x11 :: b :: l) (x0 :: x1 :: x2 :: x3 :: x4 :: x5 :: x6 :: x7 :: x8 :: x9 :: x10 :: x11 :: some v :: l) := SetA.mk (pre := [x0, x1, x2, x3, x4, x5, x6, x7, x8, x9, x10]) rfl h
theorem sl12 {x0 x1 x2 x3 x4 x5 x6 x7 x8 x9 x10 x11 b d : Option Value} {v : Value} {l : List (Option Value)} (h : c1 x11 = true) : SetL 12 v (x0 :: x1 :: x2 :: x3 :: x4 :: x5 :: x6 :: x7 :: x8 :: x9 :: x10 :: x11 :: b :: d :: l) (x0 :: x1 :: x2 :: x3 :: x4 :: x5 :: x6 :: x7 :: x8 :: x9 :: x10 :: x11 :: some v :: none :: l) := SetL.mk (pre := [x0, x1, x2, x3, x4, x5, x6, x7, x8, x9, x10]) rfl h
theorem ga13 {x0 x1 x2 x3 x4 x5 x6 x7 x8 x9 x10 x11 x12 : Option Value} {v : Value} {l : List (Option Value)} : (x0 :: x1 :: x2 :: x3 :: x4 :: x5 :: x6 :: x7 :: x8 :: x9 :: x10 :: x11 :: x12 :: some v :: l)[13]? = some (some v) := rfl
theorem gf13 {x0 x1 x2 x3 x4 x5 x6 x7 x8 x9 x10 x11 x12 v : Value} {l : List Value} : (x0 :: x1 :: x2 :: x3 :: x4 :: x5 :: x6 :: x7 :: x8 :: x9 :: x10 :: x11 :: x12 :: v :: l)[13]? = some v := rfl
theorem sa13 {x0 x1 x2 x3 x4 x5 x6 x7 x8 x9 x10 x11 x12 b : Option Value} {v : Value} {l : List (Option Value)} (h : c1 x12 = true) : SetA 13 v (x0 :: x1 :: x2 :: x3 :: x4 :: x5 :: x6 :: x7 :: x8 :: x9 :: x10 :: x11 :: x12 :: b :: l) (x0 :: x1 :: x2 :: x3 :: x4 :: x5 :: x6 :: x7 :: x8 :: x9 :: x10 :: x11 :: x12 :: some v :: l) := SetA.mk (pre := [x0, x1, x2, x3, x4, x5, x6, x7, x8, x9, x10, x11]) rfl h
theorem sl13 {x0 x1 x2 x3 x4 x5 x6 x7 x8 x9 x10 x11 x12 b d : Option Value} {v : Value} {l : List (Option Value)} (h : c1 x12 = true) : SetL 13 v (x0 :: x1 :: x2 :: x3 :: x4 :: x5 :: x6 :: x7 :: x8 :: x9 :: x10 :: x11 :: x12 :: b :: d :: l) (x0 :: x1 :: x2 :: x3 :: x4 :: x5 :: x6 :: x7 :: x8 :: x9 :: x10 :: x11 :: x12 :: some v :: none :: l) := SetL.mk (pre := [x0, x1, x2, x3, x4, x5, x6, x7, x8, x9, x10, x11]) rfl h
theorem v_iconst (cx : Cx X cc ow) {n : Int} (hd : decode cc pc = .ok (.iconst n, 1)) (k : V X E z (pc + 1) ls (.int (iI n) :: st)) : V X E z pc ls st := k.st (fun H locs L hl k => lv_iconst cx.1 cx.2.1 hd rfl k)
theorem v_bipush (cx : Cx X cc ow) {n : Int} (hn : (Int8.ofInt n).toInt32 = Int32.ofInt n) (hd : decode cc pc = .ok (.bipush n, 2)) (k : V X E z (pc + 2) ls (.int (iI n) :: st)) : V X E z pc ls st := k.st (fun H locs L hl k => lv_bipush cx.1 cx.2.1 hd hn k)
theorem v_sipush (cx : Cx X cc ow) {n : Int} (hn : (Int16.ofInt n).toInt32 = Int32.ofInt n) (hd : decode cc pc = .ok (.sipush n, 3)) (k : V X E z (pc + 3) ls (.int (iI n) :: st)) : V X E z pc ls st := k.st (fun H locs L hl k => lv_sipush cx.1 cx.2.1 hd hn k)
theorem v_lconst (cx : Cx X cc ow) {n : Fin 2} {v : Int64} (hv : Int64.ofNat (n : Nat) = v) (hd : decode cc pc = .ok (.lconst n, 1)) (k : V X E z (pc + 1) ls (.long v :: st)) : V X E z pc ls st := k.st (fun H locs L hl k => lv_lconst cx.1 cx.2.1 hd hv k)
theorem v_ldc (cx : Cx X cc ow) {index : Nat} {n : Int} (hc : Cond.constant ow index (Int32.ofInt n) ∈ TB) (hd : decode cc pc = .ok (.ldc index, 2)) (k : V X E z (pc + 2) ls (.int (iI n) :: st)) : V X E z pc ls st := k.st (fun H locs L hl k => lv_ldc cx.1 cx.2.1 cx.2.2.1 (cx.2.2.2.1 _ hc) hd k)
theorem v_iload_n (cx : Cx X cc ow) {k0 : Fin 4} {i : Nat} {x : Int32} (hi : (k0 : Nat) = i) (hg : ls[i]? = some (some (.int x))) (hd : decode cc pc = .ok (.iload_n k0, 1)) (k : V X E z (pc + 1) ls (.int x :: st)) : V X E z pc ls st := k.st (fun H locs L hl k => lv_iload_n cx.1 cx.2.1 hd hi (hl.get hg) k)
theorem v_iload (cx : Cx X cc ow) {i : Nat} {x : Int32} (hg : ls[i]? = some (some (.int x))) (hd : decode cc pc = .ok (.iload i, 2)) (k : V X E z (pc + 2) ls (.int x :: st)) : V X E z pc ls st := k.st (fun H locs L hl k => lv_iload cx.1 cx.2.1 hd (hl.get hg) k)
theorem v_lload_n (cx : Cx X cc ow) {k0 : Fin 4} {i : Nat} {x : Int64} (hi : (k0 : Nat) = i) (hg : ls[i]? = some (some (.long x))) (hd : decode cc pc = .ok (.lload_n k0, 1)) (k : V X E z (pc + 1) ls (.long x :: st)) : V X E z pc ls st := k.st (fun H locs L hl k => lv_lload_n cx.1 cx.2.1 hd hi (hl.get hg) k)
theorem v_lload (cx : Cx X cc ow) {i : Nat} {x : Int64} (hg : ls[i]? = some (some (.long x))) (hd : decode cc pc = .ok (.lload i, 2)) (k : V X E z (pc + 2) ls (.long x :: st)) : V X E z pc ls st := k.st (fun H locs L hl k => lv_lload cx.1 cx.2.1 hd (hl.get hg) k)
theorem v_aload_n (cx : Cx X cc ow) {k0 : Fin 4} {i : Nat} {x : Nat} (hi : (k0 : Nat) = i) (hg : ls[i]? = some (some (.ref x))) (hd : decode cc pc = .ok (.aload_n k0, 1)) (k : V X E z (pc + 1) ls (.ref x :: st)) : V X E z pc ls st := k.st (fun H locs L hl k => lv_aload_n cx.1 cx.2.1 hd hi (hl.get hg) k)
theorem v_aload (cx : Cx X cc ow) {i : Nat} {x : Nat} (hg : ls[i]? = some (some (.ref x))) (hd : decode cc pc = .ok (.aload i, 2)) (k : V X E z (pc + 2) ls (.ref x :: st)) : V X E z pc ls st := k.st (fun H locs L hl k => lv_aload cx.1 cx.2.1 hd (hl.get hg) k)
theorem v_istore_n (cx : Cx X cc ow) {k0 : Fin 4} {i : Nat} {x : Int32} (hi : (k0 : Nat) = i) (hs : SetA i (.int x) ls ls') (hd : decode cc pc = .ok (.istore_n k0, 1)) (k : V X E z (pc + 1) ls' st) : V X E z pc ls (.int x :: st) := k.lo (by rw [hs.2.1, List.length_set]) (fun H locs L hl k => lv_istore_n cx.1 cx.2.1 hd hi hl hs.1 rfl (fun L' h => k L' (lsH.set hs h)))
theorem v_istore (cx : Cx X cc ow) {i : Nat} {x : Int32} (hs : SetA i (.int x) ls ls') (hd : decode cc pc = .ok (.istore i, 2)) (k : V X E z (pc + 2) ls' st) : V X E z pc ls (.int x :: st) := k.lo (by rw [hs.2.1, List.length_set]) (fun H locs L hl k => lv_istore cx.1 cx.2.1 hd hl hs.1 rfl (fun L' h => k L' (lsH.set hs h)))
theorem v_astore_n (cx : Cx X cc ow) {k0 : Fin 4} {i : Nat} {x : Nat} (hi : (k0 : Nat) = i) (hs : SetA i (.ref x) ls ls') (hd : decode cc pc = .ok (.astore_n k0, 1)) (k : V X E z (pc + 1) ls' st) : V X E z pc ls (.ref x :: st) := k.lo (by rw [hs.2.1, List.length_set]) (fun H locs L hl k => lv_astore_n cx.1 cx.2.1 hd hi hl hs.1 rfl (fun L' h => k L' (lsH.set hs h)))
theorem v_astore (cx : Cx X cc ow) {i : Nat} {x : Nat} (hs : SetA i (.ref x) ls ls') (hd : decode cc pc = .ok (.astore i, 2)) (k : V X E z (pc + 2) ls' st) : V X E z pc ls (.ref x :: st) := k.lo (by rw [hs.2.1, List.length_set]) (fun H locs L hl k => lv_astore cx.1 cx.2.1 hd hl hs.1 rfl (fun L' h => k L' (lsH.set hs h)))
theorem v_lstore_n (cx : Cx X cc ow) {k0 : Fin 4} {i : Nat} {x : Int64} (hi : (k0 : Nat) = i) (hs : SetL i (.long x) ls ls') (hd : decode cc pc = .ok (.lstore_n k0, 1)) (k : V X E z (pc + 1) ls' st) : V X E z pc ls (.long x :: st) := k.lo (by rw [hs.2.1, List.length_set, List.length_set]) (fun H locs L hl k => lv_lstore_n cx.1 cx.2.1 hd hi hl hs.1 rfl (fun L' h => k L' (lsH.setL hs h)))
theorem v_lstore (cx : Cx X cc ow) {i : Nat} {x : Int64} (hs : SetL i (.long x) ls ls') (hd : decode cc pc = .ok (.lstore i, 2)) (k : V X E z (pc + 2) ls' st) : V X E z pc ls (.long x :: st) := k.lo (by rw [hs.2.1, List.length_set, List.length_set]) (fun H locs L hl k => lv_lstore cx.1 cx.2.1 hd hl hs.1 rfl (fun L' h => k L' (lsH.setL hs h)))
theorem al_get {i : Nat} {v : Value} (h : ls[i]? = some (some v)) : ∃ k : Nat, (al ls)[k]? = some (i, v) := List.getElem?_of_mem (al_mem.mpr h)
theorem v_iinc (cx : Cx X cc ow) {i : Nat} {n a : Int} (hg : ls[i]? = some (some (.int (iI a)))) (hs : SetA i (.int (iI (a + n))) ls ls') (hd : decode cc pc = .ok (.iinc i n, 3)) (k : V X E z (pc + 3) ls' st) : V X E z pc ls st := k.lo (by rw [hs.2.1, List.length_set]) (fun H locs L hl k => by obtain ⟨j, hj⟩ := al_get hg; exact lv_iinc cx.1 cx.2.1 hd hl hj (iI_add a n) hs.1 rfl (fun L' h => k L' (lsH.set hs h)))
theorem v_iadd (cx : Cx X cc ow) {a b : Int} (hd : decode cc pc = .ok (.iadd, 1)) (k : V X E z (pc + 1) ls (.int (iI (a + b)) :: st)) : V X E z pc ls (.int (iI b) :: .int (iI a) :: st) := k.st (fun H locs L hl k => lv_iadd cx.1 cx.2.1 hd (by rw [iI_add]; exact k))
theorem v_isub (cx : Cx X cc ow) {a b : Int} (hd : decode cc pc = .ok (.isub, 1)) (k : V X E z (pc + 1) ls (.int (iI (a - b)) :: st)) : V X E z pc ls (.int (iI b) :: .int (iI a) :: st) := k.st (fun H locs L hl k => lv_isub cx.1 cx.2.1 hd (by rw [iI_sub]; exact k))
theorem v_imul (cx : Cx X cc ow) {a b : Int} (hd : decode cc pc = .ok (.imul, 1)) (k : V X E z (pc + 1) ls (.int (iI (a * b)) :: st)) : V X E z pc ls (.int (iI b) :: .int (iI a) :: st) := k.st (fun H locs L hl k => lv_imul cx.1 cx.2.1 hd (by rw [iI_mul]; exact k))
theorem v_iand (cx : Cx X cc ow) {x y : Int32} (hd : decode cc pc = .ok (.iand, 1)) (k : V X E z (pc + 1) ls (.int (x &&& y) :: st)) : V X E z pc ls (.int y :: .int x :: st) := k.st (fun H locs L hl k => lv_iand cx.1 cx.2.1 hd k)
theorem v_idiv (cx : Cx X cc ow) {x y : Int32} (hne : ¬ y = 0) (hd : decode cc pc = .ok (.idiv, 1)) (k : V X E z (pc + 1) ls (.int (x / y) :: st)) : V X E z pc ls (.int y :: .int x :: st) := k.st (fun H locs L hl k => lv_idiv cx.1 cx.2.1 hd hne k)
theorem v_lmul (cx : Cx X cc ow) {x y : Int64} (hd : decode cc pc = .ok (.lmul, 1)) (k : V X E z (pc + 1) ls (.long (x * y) :: st)) : V X E z pc ls (.long y :: .long x :: st) := k.st (fun H locs L hl k => lv_lmul cx.1 cx.2.1 hd k)
theorem v_ldiv (cx : Cx X cc ow) {x y : Int64} (hne : ¬ y = 0) (hd : decode cc pc = .ok (.ldiv, 1)) (k : V X E z (pc + 1) ls (.long (x / y) :: st)) : V X E z pc ls (.long y :: .long x :: st) := k.st (fun H locs L hl k => lv_ldiv cx.1 cx.2.1 hd hne k)
theorem v_lrem (cx : Cx X cc ow) {x y : Int64} (hne : ¬ y = 0) (hd : decode cc pc = .ok (.lrem, 1)) (k : V X E z (pc + 1) ls (.long (x - x / y * y) :: st)) : V X E z pc ls (.long y :: .long x :: st) := k.st (fun H locs L hl k => lv_lrem cx.1 cx.2.1 hd hne k)
theorem v_lcmp (cx : Cx X cc ow) {x y : Int64} (hd : decode cc pc = .ok (.lcmp, 1)) (k : V X E z (pc + 1) ls (.int (lg_cmp x y) :: st)) : V X E z pc ls (.long y :: .long x :: st) := k.st (fun H locs L hl k => W.lcmp cx.1 cx.2.1 hd k)
theorem v_i2l (cx : Cx X cc ow) {x : Int32} (hd : decode cc pc = .ok (.i2l, 1)) (k : V X E z (pc + 1) ls (.long x.toInt64 :: st)) : V X E z pc ls (.int x :: st) := k.st (fun H locs L hl k => lv_i2l cx.1 cx.2.1 hd rfl k)
theorem v_l2i (cx : Cx X cc ow) {x : Int64} (hd : decode cc pc = .ok (.l2i, 1)) (k : V X E z (pc + 1) ls (.int x.toInt32 :: st)) : V X E z pc ls (.long x :: st) := k.st (fun H locs L hl k => lv_l2i cx.1 cx.2.1 hd rfl k)
theorem v_i2c (cx : Cx X cc ow) {a : Int} (h : 0 ≤ a ∧ a < 65536) (hd : decode cc pc = .ok (.i2c, 1)) (k : V X E z (pc + 1) ls (.int (iI a) :: st)) : V X E z pc ls (.int (iI a) :: st) := k.st (fun H locs L hl k => lv_i2c cx.1 cx.2.1 hd (iI_char h) k)
theorem v_dup (cx : Cx X cc ow) {v : Value} (hv : v.category = 1) (hd : decode cc pc = .ok (.dup, 1)) (k : V X E z (pc + 1) ls (v :: v :: st)) : V X E z pc ls (v :: st) := k.st (fun H locs L hl k => lv_dup cx.1 cx.2.1 hd hv k)
theorem v_dup2 (cx : Cx X cc ow) {v w : Value} (hv : v.category = 1) (hw : w.category = 1) (hd : decode cc pc = .ok (.dup2, 1)) (k : V X E z (pc + 1) ls (v :: w :: v :: w :: st)) : V X E z pc ls (v :: w :: st) := k.st (fun H locs L hl k => lv_dup2_11 cx.1 cx.2.1 hd hv hw k)
theorem v_pop (cx : Cx X cc ow) {v : Value} (hv : v.category = 1) (hd : decode cc pc = .ok (.pop, 1)) (k : V X E z (pc + 1) ls st) : V X E z pc ls (v :: st) := k.st (fun H locs L hl k => lv_pop cx.1 cx.2.1 hd hv k)
theorem v_goto (cx : Cx X cc ow) {off : Int} (tgt : Nat) (hd : decode cc pc = .ok (.goto off, 3)) (ht : (pc : Int) + off = (tgt : Int)) (k : V X E z tgt ls st) : V X E z pc ls st := k.st (fun H locs L hl k => lv_goto cx.1 cx.2.1 hd ht k)
theorem v_icmp_eq (cx : Cx X cc ow) {a b off : Int} (tgt : Nat) (hd : decode cc pc = .ok (.if_icmp .eq off, 3)) (ht : (pc : Int) + off = (tgt : Int)) (h : (-2147483648 ≤ a ∧ a < 2147483648) ∧ (-2147483648 ≤ b ∧ b < 2147483648)) (kt : a = b → V X E z tgt ls st) (kf : a ≠ b → V X E z (pc + 3) ls st) : V X E z pc ls (.int (iI b) :: .int (iI a) :: st) := fun H locs L h1 => by
  have e := iI_eq (a := a) (b := b) h.1 h.2
  exact lv_icmp_eq cx.1 cx.2.1 hd ht (fun q => kt (e.mp q) H locs L h1) (fun q => kf (fun q2 => q (e.mpr q2)) H locs L h1)
theorem v_if_eq (cx : Cx X cc ow) {a off : Int} (tgt : Nat) (hd : decode cc pc = .ok (.ifCond .eq off, 3)) (ht : (pc : Int) + off = (tgt : Int)) (h : (-2147483648 ≤ a ∧ a < 2147483648)) (kt : a = 0 → V X E z tgt ls st) (kf : a ≠ 0 → V X E z (pc + 3) ls st) : V X E z pc ls (.int (iI a) :: st) := fun H locs L h1 => by
  have e := iI_eq (a := a) (b := 0) h ⟨by omega, by omega⟩
  exact lv_if_eq cx.1 cx.2.1 hd ht (fun q => kt (e.mp q) H locs L h1) (fun q => kf (fun q2 => q (e.mpr q2)) H locs L h1)
theorem v_icmp_ne (cx : Cx X cc ow) {a b off : Int} (tgt : Nat) (hd : decode cc pc = .ok (.if_icmp .ne off, 3)) (ht : (pc : Int) + off = (tgt : Int)) (h : (-2147483648 ≤ a ∧ a < 2147483648) ∧ (-2147483648 ≤ b ∧ b < 2147483648)) (kt : a ≠ b → V X E z tgt ls st) (kf : a = b → V X E z (pc + 3) ls st) : V X E z pc ls (.int (iI b) :: .int (iI a) :: st) := fun H locs L h1 => by
  have e := iI_eq (a := a) (b := b) h.1 h.2
  exact lv_icmp_ne cx.1 cx.2.1 hd ht (fun q => kt (fun q2 => q (e.mpr q2)) H locs L h1) (fun q => kf (e.mp q) H locs L h1)
theorem v_if_ne (cx : Cx X cc ow) {a off : Int} (tgt : Nat) (hd : decode cc pc = .ok (.ifCond .ne off, 3)) (ht : (pc : Int) + off = (tgt : Int)) (h : (-2147483648 ≤ a ∧ a < 2147483648)) (kt : a ≠ 0 → V X E z tgt ls st) (kf : a = 0 → V X E z (pc + 3) ls st) : V X E z pc ls (.int (iI a) :: st) := fun H locs L h1 => by
  have e := iI_eq (a := a) (b := 0) h ⟨by omega, by omega⟩
  exact lv_if_ne cx.1 cx.2.1 hd ht (fun q => kt (fun q2 => q (e.mpr q2)) H locs L h1) (fun q => kf (e.mp q) H locs L h1)
theorem v_icmp_lt (cx : Cx X cc ow) {a b off : Int} (tgt : Nat) (hd : decode cc pc = .ok (.if_icmp .lt off, 3)) (ht : (pc : Int) + off = (tgt : Int)) (h : (-2147483648 ≤ a ∧ a < 2147483648) ∧ (-2147483648 ≤ b ∧ b < 2147483648)) (kt : a < b → V X E z tgt ls st) (kf : b ≤ a → V X E z (pc + 3) ls st) : V X E z pc ls (.int (iI b) :: .int (iI a) :: st) := fun H locs L h1 => by
  have e := iI_lt (a := a) (b := b) h.1 h.2
  exact lv_icmp_lt cx.1 cx.2.1 hd ht (fun q => kt (e.mp q) H locs L h1) (fun q => kf (Int.not_lt.mp (fun q2 => q (e.mpr q2))) H locs L h1)
theorem v_if_lt (cx : Cx X cc ow) {a off : Int} (tgt : Nat) (hd : decode cc pc = .ok (.ifCond .lt off, 3)) (ht : (pc : Int) + off = (tgt : Int)) (h : (-2147483648 ≤ a ∧ a < 2147483648)) (kt : a < 0 → V X E z tgt ls st) (kf : 0 ≤ a → V X E z (pc + 3) ls st) : V X E z pc ls (.int (iI a) :: st) := fun H locs L h1 => by
  have e := iI_lt (a := a) (b := 0) h ⟨by omega, by omega⟩
  exact lv_if_lt cx.1 cx.2.1 hd ht (fun q => kt (e.mp q) H locs L h1) (fun q => kf (Int.not_lt.mp (fun q2 => q (e.mpr q2))) H locs L h1)
theorem v_icmp_ge (cx : Cx X cc ow) {a b off : Int} (tgt : Nat) (hd : decode cc pc = .ok (.if_icmp .ge off, 3)) (ht : (pc : Int) + off = (tgt : Int)) (h : (-2147483648 ≤ a ∧ a < 2147483648) ∧ (-2147483648 ≤ b ∧ b < 2147483648)) (kt : b ≤ a → V X E z tgt ls st) (kf : a < b → V X E z (pc + 3) ls st) : V X E z pc ls (.int (iI b) :: .int (iI a) :: st) := fun H locs L h1 => by
  have e := iI_le (a := b) (b := a) h.2 h.1
  exact lv_icmp_ge cx.1 cx.2.1 hd ht (fun q => kt (e.mp q) H locs L h1) (fun q => kf (Int.not_le.mp (fun q2 => q (e.mpr q2))) H locs L h1)
theorem v_if_ge (cx : Cx X cc ow) {a off : Int} (tgt : Nat) (hd : decode cc pc = .ok (.ifCond .ge off, 3)) (ht : (pc : Int) + off = (tgt : Int)) (h : (-2147483648 ≤ a ∧ a < 2147483648)) (kt : 0 ≤ a → V X E z tgt ls st) (kf : a < 0 → V X E z (pc + 3) ls st) : V X E z pc ls (.int (iI a) :: st) := fun H locs L h1 => by
  have e := iI_le (a := 0) (b := a) ⟨by omega, by omega⟩ h
  exact lv_if_ge cx.1 cx.2.1 hd ht (fun q => kt (e.mp q) H locs L h1) (fun q => kf (Int.not_le.mp (fun q2 => q (e.mpr q2))) H locs L h1)
theorem v_icmp_gt (cx : Cx X cc ow) {a b off : Int} (tgt : Nat) (hd : decode cc pc = .ok (.if_icmp .gt off, 3)) (ht : (pc : Int) + off = (tgt : Int)) (h : (-2147483648 ≤ a ∧ a < 2147483648) ∧ (-2147483648 ≤ b ∧ b < 2147483648)) (kt : b < a → V X E z tgt ls st) (kf : a ≤ b → V X E z (pc + 3) ls st) : V X E z pc ls (.int (iI b) :: .int (iI a) :: st) := fun H locs L h1 => by
  have e := iI_lt (a := b) (b := a) h.2 h.1
  exact lv_icmp_gt cx.1 cx.2.1 hd ht (fun q => kt (e.mp q) H locs L h1) (fun q => kf (Int.not_lt.mp (fun q2 => q (e.mpr q2))) H locs L h1)
theorem v_if_gt (cx : Cx X cc ow) {a off : Int} (tgt : Nat) (hd : decode cc pc = .ok (.ifCond .gt off, 3)) (ht : (pc : Int) + off = (tgt : Int)) (h : (-2147483648 ≤ a ∧ a < 2147483648)) (kt : 0 < a → V X E z tgt ls st) (kf : a ≤ 0 → V X E z (pc + 3) ls st) : V X E z pc ls (.int (iI a) :: st) := fun H locs L h1 => by
  have e := iI_lt (a := 0) (b := a) ⟨by omega, by omega⟩ h
  exact lv_if_gt cx.1 cx.2.1 hd ht (fun q => kt (e.mp q) H locs L h1) (fun q => kf (Int.not_lt.mp (fun q2 => q (e.mpr q2))) H locs L h1)
theorem v_icmp_le (cx : Cx X cc ow) {a b off : Int} (tgt : Nat) (hd : decode cc pc = .ok (.if_icmp .le off, 3)) (ht : (pc : Int) + off = (tgt : Int)) (h : (-2147483648 ≤ a ∧ a < 2147483648) ∧ (-2147483648 ≤ b ∧ b < 2147483648)) (kt : a ≤ b → V X E z tgt ls st) (kf : b < a → V X E z (pc + 3) ls st) : V X E z pc ls (.int (iI b) :: .int (iI a) :: st) := fun H locs L h1 => by
  have e := iI_le (a := a) (b := b) h.1 h.2
  exact lv_icmp_le cx.1 cx.2.1 hd ht (fun q => kt (e.mp q) H locs L h1) (fun q => kf (Int.not_le.mp (fun q2 => q (e.mpr q2))) H locs L h1)
theorem v_if_le (cx : Cx X cc ow) {a off : Int} (tgt : Nat) (hd : decode cc pc = .ok (.ifCond .le off, 3)) (ht : (pc : Int) + off = (tgt : Int)) (h : (-2147483648 ≤ a ∧ a < 2147483648)) (kt : a ≤ 0 → V X E z tgt ls st) (kf : 0 < a → V X E z (pc + 3) ls st) : V X E z pc ls (.int (iI a) :: st) := fun H locs L h1 => by
  have e := iI_le (a := a) (b := 0) h ⟨by omega, by omega⟩
  exact lv_if_le cx.1 cx.2.1 hd ht (fun q => kt (e.mp q) H locs L h1) (fun q => kf (Int.not_le.mp (fun q2 => q (e.mpr q2))) H locs L h1)
theorem v_if_icmp_eqI (cx : Cx X cc ow) {x y : Int32} {off : Int} (tgt : Nat) (hd : decode cc pc = .ok (.if_icmp .eq off, 3)) (ht : (pc : Int) + off = (tgt : Int)) (kt : x = y → V X E z tgt ls st) (kf : ¬ x = y → V X E z (pc + 3) ls st) : V X E z pc ls (.int y :: .int x :: st) := fun H locs L h1 => lv_icmp_eq cx.1 cx.2.1 hd ht (fun q => kt q H locs L h1) (fun q => kf q H locs L h1)
theorem v_tableIn (cx : Cx X cc ow) {dflt lo hi a : Int} {offs : Array Int} {len : Nat} {off : Int} (tgt : Nat) (hd : decode cc pc = .ok (.tableswitch dflt lo hi offs, len)) (h : lo ≤ a ∧ a ≤ hi ∧ -2147483648 ≤ a ∧ a < 2147483648) (ho : offs[(a - lo).toNat]? = some off) (ht : (pc : Int) + off = (tgt : Int)) (k : V X E z tgt ls st) : V X E z pc ls (.int (iI a) :: st) := k.st (fun H locs L hl k => lv_tableIn cx.1 cx.2.1 hd (by rw [iI_toInt ⟨h.2.2.1, h.2.2.2⟩]; omega) (by rw [iI_toInt ⟨h.2.2.1, h.2.2.2⟩]; omega) (by rw [iI_toInt ⟨h.2.2.1, h.2.2.2⟩]; exact ho) ht k)
theorem v_tableOut (cx : Cx X cc ow) {dflt lo hi a : Int} {offs : Array Int} {len : Nat} (tgt : Nat) (hd : decode cc pc = .ok (.tableswitch dflt lo hi offs, len)) (h : (a < lo ∨ hi < a) ∧ -2147483648 ≤ a ∧ a < 2147483648) (ht : (pc : Int) + dflt = (tgt : Int)) (k : V X E z tgt ls st) : V X E z pc ls (.int (iI a) :: st) := k.st (fun H locs L hl k => lv_tableOut cx.1 cx.2.1 hd (by rw [iI_toInt ⟨h.2.1, h.2.2⟩]; exact h.1) ht k)
end Rows
end
section
/-! rows of the memory, over the judgement V -/
def upW (E : Wd) (o : Nat) (e : va_E) : Wd := fun j => if j = o then some e else E j
theorem upW_s {E : Wd} {o : Nat} {e : va_E} : upW E o e o = some e := by simp [upW]
theorem upW_n {E : Wd} {o : Nat} {e : va_E} : ∀ j, j ≠ o → upW E o e j = E j := fun j h => by simp [upW, h]
def upI (g : Nat → Int) (j : Nat) (x : Int) : Nat → Int := fun q => if q = j then x else g q
theorem upI_s {g : Nat → Int} {j : Nat} {x : Int} : upI g j x j = x := by simp [upI]
theorem upI_n {g : Nat → Int} {j q : Nat} {x : Int} (h : q ≠ j) : upI g j x q = g q := by simp [upI, h]
theorem upI_a (g : Nat → Int) (j : Nat) (x : Int) (q : Nat) : upI g j x q = if q = j then x else g q := rfl
def upO (g : Nat → Option Nat) (j : Nat) (x : Option Nat) : Nat → Option Nat := fun q => if q = j then x else g q
theorem upO_a (g : Nat → Option Nat) (j : Nat) (x : Option Nat) (q : Nat) : upO g j x q = if q = j then x else g q := rfl
theorem wdH.one {G : Gc} {E : Wd} {H : Heap} {o : Nat} {e : va_E} (h : wdH G E H) (he : E o = some e) : va_P (gD G) vwCl [(gb G + o, e)] H := fun k q hk => by
  match k, hk with
  | 0, hk => cases hk; exact h o e he
  | k + 1, hk => simp at hk
theorem wdH.upd {G : Gc} {E : Wd} {H H1 : Heap} {o : Nat} {e : va_E} (h : wdH G E H) (he : va_at (gD G) vwCl (gb G + o, e) H1) (oq : ∀ q : Nat, q ≠ gb G + o → H1[q]? = H[q]?) : wdH G (upW E o e) H1 := by
  intro k x hk
  by_cases hko : k = o
  · subst hko
    rw [upW_s] at hk
    cases hk
    exact he
  · rw [upW_n k hko] at hk
    exact (h k x hk).kept (oq _ (by show gb G + k ≠ _; omega))
theorem gO_o {G : Gc} {o : Nat} : gO G (gb G + o) := Nat.le_add_right _ _
def FL (ow : String) (idx ci k : Nat) : Prop := ∃ (C : String) (T : u_T) (N : Nat), vwCl[ci]? = some (C, T, N) ∧ k < N ∧ (∀ w ∈ u_ws C T N, w ∈ TB) ∧ Cond.fieldLink ow idx (T k).1 (T k).2.1 (T k).2.2.1 ∈ TB
def FP (ow : String) (idx ci k : Nat) (fin : Bool) (ty : FieldType) : Prop := ∃ (C : String) (T : u_T) (N : Nat) (ty0 : Nat → FieldType), vwCl[ci]? = some (C, T, N) ∧ k < N ∧ (∀ w ∈ u_ws C T N, w ∈ TB) ∧ Cond.fieldLink ow idx (T k).1 (T k).2.1 (T k).2.2.1 ∈ TB ∧ (∀ k, k < N → parseFieldDescriptor (T k).2.2.1 = some (ty0 k)) ∧ (∀ a, a < N → ∀ b, b < N → a ≠ b → (T a).2.1 ≠ (T b).2.1) ∧ ty0 k = ty ∧ (T k).2.2.2 = fin ∧ (T k).1 = ow
def PF (k : Nat) (v : Value) (fs fs' : List Value) : Prop := k < fs.length ∧ fs' = fs.set k v
theorem pf0 {v a : Value} {l : List Value} : PF 0 v (a :: l) (v :: l) := ⟨by simp, rfl⟩
theorem pf1 {v x0 a : Value} {l : List Value} : PF 1 v (x0 :: a :: l) (x0 :: v :: l) := ⟨by simp, rfl⟩
theorem pf2 {v x0 x1 a : Value} {l : List Value} : PF 2 v (x0 :: x1 :: a :: l) (x0 :: x1 :: v :: l) := ⟨by simp, rfl⟩
theorem pf3 {v x0 x1 x2 a : Value} {l : List Value} : PF 3 v (x0 :: x1 :: x2 :: a :: l) (x0 :: x1 :: x2 :: v :: l) := ⟨by simp, rfl⟩
theorem pf4 {v x0 x1 x2 x3 a : Value} {l : List Value} : PF 4 v (x0 :: x1 :: x2 :: x3 :: a :: l) (x0 :: x1 :: x2 :: x3 :: v :: l) := ⟨by simp, rfl⟩
theorem pf5 {v x0 x1 x2 x3 x4 a : Value} {l : List Value} : PF 5 v (x0 :: x1 :: x2 :: x3 :: x4 :: a :: l) (x0 :: x1 :: x2 :: x3 :: x4 :: v :: l) := ⟨by simp, rfl⟩
theorem pf6 {v x0 x1 x2 x3 x4 x5 a : Value} {l : List Value} : PF 6 v (x0 :: x1 :: x2 :: x3 :: x4 :: x5 :: a :: l) (x0 :: x1 :: x2 :: x3 :: x4 :: x5 :: v :: l) := ⟨by simp, rfl⟩
theorem pf7 {v x0 x1 x2 x3 x4 x5 x6 a : Value} {l : List Value} : PF 7 v (x0 :: x1 :: x2 :: x3 :: x4 :: x5 :: x6 :: a :: l) (x0 :: x1 :: x2 :: x3 :: x4 :: x5 :: x6 :: v :: l) := ⟨by simp, rfl⟩
theorem pf8 {v x0 x1 x2 x3 x4 x5 x6 x7 a : Value} {l : List Value} : PF 8 v (x0 :: x1 :: x2 :: x3 :: x4 :: x5 :: x6 :: x7 :: a :: l) (x0 :: x1 :: x2 :: x3 :: x4 :: x5 :: x6 :: x7 :: v :: l) := ⟨by simp, rfl⟩
theorem pf9 {v x0 x1 x2 x3 x4 x5 x6 x7 x8 a : Value} {l : List Value} : PF 9 v (x0 :: x1 :: x2 :: x3 :: x4 :: x5 :: x6 :: x7 :: x8 :: a :: l) (x0 :: x1 :: x2 :: x3 :: x4 :: x5 :: x6 :: x7 :: x8 :: v :: l) := ⟨by simp, rfl⟩
theorem pf10 {v x0 x1 x2 x3 x4 x5 x6 x7 x8 x9 a : Value} {l : List Value} : PF 10 v (x0 :: x1 :: x2 :: x3 :: x4 :: x5 :: x6 :: x7 :: x8 :: x9 :: a :: l) (x0 :: x1 :: x2 :: x3 :: x4 :: x5 :: x6 :: x7 :: x8 :: x9 :: v :: l) := ⟨by simp, rfl⟩
theorem pf11 {v x0 x1 x2 x3 x4 x5 x6 x7 x8 x9 x10 a : Value} {l : List Value} : PF 11 v (x0 :: x1 :: x2 :: x3 :: x4 :: x5 :: x6 :: x7 :: x8 :: x9 :: x10 :: a :: l) (x0 :: x1 :: x2 :: x3 :: x4 :: x5 :: x6 :: x7 :: x8 :: x9 :: x10 :: v :: l) := ⟨by simp, rfl⟩
section Mem
variable {X : Fx} {E : Wd} {z : Nat × Nat × Nat} {pc : Nat} {ls ls' : List (Option Value)} {st : List Value} {cc : ByteArray} {ow : String}
theorem v_getfield (cx : Cx X cc ow) {idx ci k o : Nat} {fs : List Value} {v : Value} (hf : FL ow idx ci k) (he : E o = some (.inr (ci, fs))) (hv : fs[k]? = some v) (hd : decode cc pc = .ok (.getfield idx, 3)) (kk : V X E z (pc + 3) ls (v :: st)) : V X E z pc ls (.ref (gb (fG X) + o) :: st) := by
  intro H locs L h1
  obtain ⟨C, T, N, hc, hk, hin, hl⟩ := hf
  exact va_get cx.1 cx.2.1 cx.2.2.2.1 hin cx.2.2.1 cx.2.2.2.2.1.1 (h1.1.one he) 0 rfl hc k hk (cx.2.2.2.1 _ hl) (fun _ h => h) hv hd (kk H locs L h1)
theorem v_putfield (cx : Cx X cc ow) {idx ci k o : Nat} {fs fs' : List Value} {v : Value} {ty : FieldType} (hf : FP ow idx ci k false ty) (he : E o = some (.inr (ci, fs))) (hn : narrow ty v = v ∧ fits ty v = true) (hs : PF k v fs fs') (hd : decode cc pc = .ok (.putfield idx, 3)) (kk : ∀ E1 : Wd, E1 o = some (.inr (ci, fs')) → (∀ j, j ≠ o → E1 j = E j) → V X E1 z (pc + 3) ls st) : V X E z pc ls (v :: .ref (gb (fG X) + o) :: st) := by
  intro H locs L h1
  obtain ⟨C, T, N, ty0, hc, hk, hin, hl, hty, hnm, ht, hfin, -⟩ := hf
  obtain ⟨hlt, rfl⟩ := hs
  have hts := cx.2.2.2.1
  have hK := cx.2.2.2.2.1.1
  have hap := va_apart (own := ow) hts hin ty0 hty hnm hK hc
  obtain ⟨r, h2, cell, q1, q2, q3, q4⟩ := h1.1 o _ he
  have hr : r = (C, T, N) := Option.some.inj (h2.symm.trans hc)
  subst hr
  obtain ⟨hS, hfc, kC, hkC, hkind⟩ := hK.1 ci _ hc
  obtain ⟨cf, kf, fi, f, hi, hsl⟩ := hS k hk
  have hlay := hts _ (hin _ (u_in_lay hk))
  unfold u_lay at hlay
  rw [if_neg (by rw [hfin]; decide)] at hlay
  have hst := (u_facts hfc hkC (u_lays hts hin hk) hi).1
  have h6 := u_store hfc hkC hkind hlay hi (hty k hk) (by rw [ht]; exact hn.1) (by rw [ht]; exact hn.2)
  refine W.putK cx.1 cx.2.1 (f := f) ⟨cx.2.2.1, hts _ hl, ⟨_, _, _, hi⟩, hst⟩ (by rw [q2]; exact h6) q1 q3 (by rw [hsl]; exact k2_hasslot (q4 k hk)) rfl rfl hd fun H' e1 e2 e3 => ?_
  rw [hsl] at e1 ⊢
  exact kk _ upW_s upW_n H' _ L ⟨h1.1.upd ⟨_, hc, t_OB.to (V := updV (vp_V fs) k v) ⟨_, e1, q2, q3, t_set q4 hap hk v⟩ (fun j _ => vp_updV_set hlt v j)⟩ e3, by rw [e2]; exact h1.2.1, h1.2.2.1.put e2 e3 gO_o, h1.2.2.2⟩
theorem v_putfieldF (cx : Cx X cc ow) (hini : (fMe X).name = "<init>") {idx ci k o : Nat} {fs fs' : List Value} {v : Value} {ty : FieldType} (hf : FP ow idx ci k true ty) (he : E o = some (.inr (ci, fs))) (hn : narrow ty v = v ∧ fits ty v = true) (hs : PF k v fs fs') (hd : decode cc pc = .ok (.putfield idx, 3)) (kk : ∀ E1 : Wd, E1 o = some (.inr (ci, fs')) → (∀ j, j ≠ o → E1 j = E j) → V X E1 z (pc + 3) ls st) : V X E z pc ls (v :: .ref (gb (fG X) + o) :: st) := by
  intro H locs L h1
  obtain ⟨C, T, N, ty0, hc, hk, hin, hl, hty, hnm, ht, hfin, hdecl⟩ := hf
  obtain ⟨hlt, rfl⟩ := hs
  have hts := cx.2.2.2.1
  have hK := cx.2.2.2.2.1.1
  have hown := cx.2.2.1
  have hap := va_apart (own := ow) hts hin ty0 hty hnm hK hc
  obtain ⟨r, h2, cell, q1, q2, q3, q4⟩ := h1.1 o _ he
  have hr : r = (C, T, N) := Option.some.inj (h2.symm.trans hc)
  subst hr
  obtain ⟨hS, hfc, kC, hkC, hkind⟩ := hK.1 ci _ hc
  obtain ⟨cf, kf, fi, f, hi, hsl⟩ := hS k hk
  have hlay := hts _ (hin _ (u_in_lay hk))
  unfold u_lay at hlay
  rw [if_pos hfin] at hlay
  have hst := (u_facts hfc hkC (u_lays hts hin hk) hi).1
  have hcf : (fM X).cls = cf := by
    obtain ⟨_, _, c', _, _, _, -, -, hf', -, -, -, hown2, -⟩ := Cond.laysFinal_spec hlay
    have e1 : c' = cf := by have := hi.symm.trans hf'; simp at this; exact this.1.symm
    rw [hdecl] at hown2
    rw [← e1]; exact Option.some.inj (hown.symm.trans hown2)
  have h6 := u_fits hfc hkC hkind (Or.inr hlay) hi (hty k hk) (by rw [ht]; exact hn.1) (by rw [ht]; exact hn.2)
  refine W.putFinK cx.1 cx.2.1 hown (hts _ hl) hi hst hcf hini (by rw [q2]; exact h6) q1 q3 (by rw [hsl]; exact k2_hasslot (q4 k hk)) rfl rfl hd fun H' e1 e2 e3 => ?_
  rw [hsl] at e1 ⊢
  exact kk _ upW_s upW_n H' _ L ⟨h1.1.upd ⟨_, hc, t_OB.to (V := updV (vp_V fs) k v) ⟨_, e1, q2, q3, t_set q4 hap hk v⟩ (fun j _ => vp_updV_set hlt v j)⟩ e3, by rw [e2]; exact h1.2.1, h1.2.2.1.put e2 e3 gO_o, h1.2.2.2⟩
theorem v_iaload (cx : Cx X cc ow) {o n : Nat} {g : Nat → Int} {i : Int} (j : Nat) (he : E o = some (AI (fG X) n g)) (hj : i = (j : Int) ∧ j < n ∧ (j : Int) < 2147483648) (hd : decode cc pc = .ok (.iaload, 1)) (kk : V X E z (pc + 1) ls (.int (iI (g j)) :: st)) : V X E z pc ls (.int (iI i) :: .ref (gb (fG X) + o) :: st) := by
  intro H locs L h1
  obtain ⟨e1, e2⟩ := iI_in hj.1 hj.2.1 hj.2.2
  exact va_iald cx.1 cx.2.1 cx.2.2.2.2.1.1 (h1.1.one he) 0 0 rfl rfl e1 hd (by rw [e2]; exact kk H locs L h1)
theorem v_caload (cx : Cx X cc ow) {o n : Nat} {g : Nat → Int} {i : Int} (j : Nat) (he : E o = some (AC (fG X) n g)) (hj : i = (j : Int) ∧ j < n ∧ (j : Int) < 2147483648) (hd : decode cc pc = .ok (.caload, 1)) (kk : V X E z (pc + 1) ls (.int (iI (g j)) :: st)) : V X E z pc ls (.int (iI i) :: .ref (gb (fG X) + o) :: st) := by
  intro H locs L h1
  obtain ⟨e1, e2⟩ := iI_in hj.1 hj.2.1 hj.2.2
  exact va_cald cx.1 cx.2.1 cx.2.2.2.2.1.1 (h1.1.one he) 0 1 rfl rfl e1 hd (by rw [e2]; exact kk H locs L h1)
theorem v_baload (cx : Cx X cc ow) {o n : Nat} {g : Nat → Int} {i : Int} (j : Nat) (he : E o = some (AZ (fG X) n g)) (hj : i = (j : Int) ∧ j < n ∧ (j : Int) < 2147483648) (hd : decode cc pc = .ok (.baload, 1)) (kk : V X E z (pc + 1) ls (.int (iI (g j)) :: st)) : V X E z pc ls (.int (iI i) :: .ref (gb (fG X) + o) :: st) := by
  intro H locs L h1
  obtain ⟨e1, e2⟩ := iI_in hj.1 hj.2.1 hj.2.2
  exact va_zald cx.1 cx.2.1 cx.2.2.2.2.1.1 (h1.1.one he) 0 2 rfl rfl e1 hd (by rw [e2]; exact kk H locs L h1)
theorem v_aaload (cx : Cx X cc ow) {o n r : Nat} {g : Nat → Option Nat} {i : Int} (j : Nat) (he : E o = some (AS (fG X) n g)) (hj : i = (j : Int) ∧ j < n ∧ (j : Int) < 2147483648) (hr : g j = some r) (hd : decode cc pc = .ok (.aaload, 1)) (kk : V X E z (pc + 1) ls (.ref (gb (fG X) + r) :: st)) : V X E z pc ls (.int (iI i) :: .ref (gb (fG X) + o) :: st) := by
  intro H locs L h1
  obtain ⟨e1, e2⟩ := iI_in hj.1 hj.2.1 hj.2.2
  exact va_aldq cx.1 cx.2.1 cx.2.2.2.2.1.1 (h1.1.one he) 0 3 rfl rfl e1 hd (by rw [e2, hr]; exact kk H locs L h1)
theorem v_alen (cx : Cx X cc ow) {o n : Nat} {a : Nat × ((Nat → Int32) ⊕ (Nat → Int64) ⊕ (Nat → UInt32) ⊕ (Nat → UInt64) ⊕ (Nat → Option Nat))} (he : E o = some (.inl (gK (fG X) 0, a))) (hn : a.1 = n) (hd : decode cc pc = .ok (.arraylength, 1)) (kk : V X E z (pc + 1) ls (.int (iI (n : Int)) :: st)) : V X E z pc ls (.ref (gb (fG X) + o) :: st) := by
  intro H locs L h1
  subst hn
  exact va_alen cx.1 cx.2.1 cx.2.2.2.2.1.1 (h1.1.one he) 0 0 rfl rfl (Int32.ofInt_eq_ofNat (n := a.1)).symm hd (kk H locs L h1)
theorem AI_upd {G : Gc} {n j : Nat} {g : Nat → Int} {x : Int} {c : ClassId} : (.inl (c, n, .inl (upd (fun q => iI (g q)) j (iI x))) : va_E) = .inl (c, n, .inl (fun q => iI (upI g j x q))) := by
  congr 4
  funext q
  by_cases h : q = j <;> simp [upd, upI, h]
theorem v_iastore (cx : Cx X cc ow) {o n : Nat} {g : Nat → Int} {i x : Int} (j : Nat) (he : E o = some (AI (fG X) n g)) (hj : i = (j : Int) ∧ j < n ∧ (j : Int) < 2147483648) (hd : decode cc pc = .ok (.iastore, 1)) (kk : ∀ E1 : Wd, E1 o = some (AI (fG X) n (upI g j x)) → (∀ j, j ≠ o → E1 j = E j) → V X E1 z (pc + 1) ls st) : V X E z pc ls (.int (iI x) :: .int (iI i) :: .ref (gb (fG X) + o) :: st) := by
  intro H locs L h1
  obtain ⟨e1, e2⟩ := iI_in hj.1 hj.2.1 hj.2.2
  refine W.iast cx.1 cx.2.1 (h1.1 o _ he) ((cx.2.2.2.2.1.1.2 0 _ rfl).1 n (fun j => .int (iI (g j)))) (fun q => by cases q) (by show ¬ (iI i < 0 ∨ (arrV _ _ _).slots.size ≤ _); rw [arrV_size]; exact e1) rfl rfl hd fun H1 e z1 oq => ?_
  refine kk _ upW_s upW_n H1 _ L ⟨h1.1.upd ?_ oq, by rw [z1]; exact h1.2.1, h1.2.2.1.put z1 oq gO_o, h1.2.2.2⟩
  show H1[_]? = some (vp_cell _ _)
  rw [e, e2]
  rw [vp_cell_i, vp_cell_i, arrV_store]
  congr 2
  funext q
  by_cases hq : q = j
  · subst hq
    simp [updV, upI]
  · simp [updV, upI, hq]
theorem v_castore (cx : Cx X cc ow) {o n : Nat} {g : Nat → Int} {i x : Int} (j : Nat) (he : E o = some (AC (fG X) n g)) (hj : i = (j : Int) ∧ j < n ∧ (j : Int) < 2147483648) (hx : narrow .char (.int (iI x)) = .int (iI x)) (hd : decode cc pc = .ok (.castore, 1)) (kk : ∀ E1 : Wd, E1 o = some (AC (fG X) n (upI g j x)) → (∀ j, j ≠ o → E1 j = E j) → V X E1 z (pc + 1) ls st) : V X E z pc ls (.int (iI x) :: .int (iI i) :: .ref (gb (fG X) + o) :: st) := by
  intro H locs L h1
  obtain ⟨e1, e2⟩ := iI_in hj.1 hj.2.1 hj.2.2
  refine W.cast cx.1 cx.2.1 (h1.1 o _ he) ((cx.2.2.2.2.1.1.2 1 _ rfl).1 n (fun j => .int (iI (g j)))) (fun q => by cases q) (by show ¬ (iI i < 0 ∨ (arrV _ _ _).slots.size ≤ _); rw [arrV_size]; exact e1) rfl rfl hd fun H1 e z1 oq => ?_
  refine kk _ upW_s upW_n H1 _ L ⟨h1.1.upd ?_ oq, by rw [z1]; exact h1.2.1, h1.2.2.1.put z1 oq gO_o, h1.2.2.2⟩
  show H1[_]? = some (vp_cell _ _)
  rw [e, e2, hx]
  rw [vp_cell_i, vp_cell_i, arrV_store]
  congr 2
  funext q
  by_cases hq : q = j
  · subst hq
    simp [updV, upI]
  · simp [updV, upI, hq]
theorem v_bastore (cx : Cx X cc ow) {o n : Nat} {g : Nat → Int} {i x : Int} (j : Nat) (he : E o = some (AZ (fG X) n g)) (hj : i = (j : Int) ∧ j < n ∧ (j : Int) < 2147483648) (hx : narrow .boolean (.int (iI x)) = .int (iI x)) (hd : decode cc pc = .ok (.bastore, 1)) (kk : ∀ E1 : Wd, E1 o = some (AZ (fG X) n (upI g j x)) → (∀ j, j ≠ o → E1 j = E j) → V X E1 z (pc + 1) ls st) : V X E z pc ls (.int (iI x) :: .int (iI i) :: .ref (gb (fG X) + o) :: st) := by
  intro H locs L h1
  obtain ⟨e1, e2⟩ := iI_in hj.1 hj.2.1 hj.2.2
  refine W.zast cx.1 cx.2.1 (h1.1 o _ he) ((cx.2.2.2.2.1.1.2 2 _ rfl).1 n (fun j => .int (iI (g j)))) (fun q => by cases q) (by show ¬ (iI i < 0 ∨ (arrV _ _ _).slots.size ≤ _); rw [arrV_size]; exact e1) rfl rfl hd fun H1 e z1 oq => ?_
  refine kk _ upW_s upW_n H1 _ L ⟨h1.1.upd ?_ oq, by rw [z1]; exact h1.2.1, h1.2.2.1.put z1 oq gO_o, h1.2.2.2⟩
  show H1[_]? = some (vp_cell _ _)
  rw [e, e2, hx]
  rw [vp_cell_i, vp_cell_i, arrV_store]
  congr 2
  funext q
  by_cases hq : q = j
  · subst hq
    simp [updV, upI]
  · simp [updV, upI, hq]
theorem v_aastore (cx : Cx X cc ow) {o n r : Nat} {g : Nat → Option Nat} {i : Int} {fs : List Value} (j : Nat) (he : E o = some (AS (fG X) n g)) (hj : i = (j : Int) ∧ j < n ∧ (j : Int) < 2147483648) (hr : E r = some (.inr (9, fs))) (hd : decode cc pc = .ok (.aastore, 1)) (kk : ∀ E1 : Wd, E1 o = some (AS (fG X) n (upO g j (some r))) → (∀ j, j ≠ o → E1 j = E j) → V X E1 z (pc + 1) ls st) : V X E z pc ls (.ref (gb (fG X) + r) :: .int (iI i) :: .ref (gb (fG X) + o) :: st) := by
  intro H locs L h1
  obtain ⟨e1, e2⟩ := iI_in hj.1 hj.2.1 hj.2.2
  have h0 : ¬ iI i < 0 := fun q => e1 (Or.inl q)
  have hK := cx.2.2.2.2.1.1
  obtain ⟨r', hr', cellV, g1, g2, g3, -⟩ := h1.1 r _ hr
  have hcls := (hK.1 9 _ rfl).2
  obtain ⟨kA, comp, k1, k2, k3, -⟩ := (hK.2 3 _ rfl).2
  have hcomp : comp = (gD (fG X)).1 9 := Option.some.inj (k3.symm.trans hcls.1)
  subst hcomp
  obtain ⟨kC, hkC, -⟩ := hcls.2
  refine W.aast cx.1 cx.2.1 (h1.1 o _ he) (fun q h => by cases h) (fun h => by cases h) k1 k2 rfl hkC ⟨h0, by show _ < (arrV _ _ _).slots.size; rw [arrV_size, e2]; exact hj.2.1⟩ g1 (fun q h => by rw [g3] at h; cases h) (by rw [g2]; exact hkC) (by rw [g2]; exact va_assign hcls) rfl rfl hd fun H1 e z1 oq => ?_
  refine kk _ upW_s upW_n H1 _ L ⟨h1.1.upd ?_ oq, by rw [z1]; exact h1.2.1, h1.2.2.1.put z1 oq gO_o, h1.2.2.2⟩
  show H1[_]? = some (vp_cell _ _)
  rw [e, e2]
  rw [vp_cell_q, vp_cell_q, arrV_store]
  congr 2
  funext q
  by_cases hq : q = j
  · subst hq
    simp [updV, upO, va_rf]
  · simp [updV, upO, hq]
theorem v_getstatic (cx : Cx X cc ow) {idx : Nat} (i : Nat) (hi : i < 3) (hl : Cond.fieldLink ow idx RX11 (tbN i) "[I" ∈ TB) (hd : decode cc pc = .ok (.getstatic idx, 3)) (kk : V X E z (pc + 3) ls (.ref (gT (fG X) i) :: st)) : V X E z pc ls st := by
  intro H locs L h1
  exact va_gets cx.1 cx.2.1 (cx.2.2.2.2.1.2.1 i hi).1 h1.2.2.1 cx.2.2.1 (cx.2.2.2.1 _ hl) (fun _ h => h) hd (kk H locs L h1)
theorem v_tload (cx : Cx X cc ow) {i : Nat} {a : Int} (j : Nat) (hi : i < 3) (hj : a = (j : Int) ∧ j < 8 ∧ (j : Int) < 2147483648) (hd : decode cc pc = .ok (.iaload, 1)) (kk : V X E z (pc + 1) ls (.int (iI (tbV i j)) :: st)) : V X E z pc ls (.int (iI a) :: .ref (gT (fG X) i) :: st) := by
  intro H locs L h1
  obtain ⟨e1, e2⟩ := iI_in hj.1 hj.2.1 hj.2.2
  exact va_ti cx.1 cx.2.1 (cx.2.2.2.2.1.2.1 i hi).2 h1.2.2.1 e1 (by rw [e2]) hd (kk H locs L h1)
theorem v_tlen (cx : Cx X cc ow) {i : Nat} (hi : i < 3) (hd : decode cc pc = .ok (.arraylength, 1)) (kk : V X E z (pc + 1) ls (.int (iI 8) :: st)) : V X E z pc ls (.ref (gT (fG X) i) :: st) := by
  intro H locs L h1
  exact va_tlen cx.1 cx.2.1 (cx.2.2.2.2.1.2.1 i hi).2 h1.2.2.1 rfl hd (kk H locs L h1)
end Mem
end
section
/-! contracts, entry, return, calls, over the judgement V -/
def rmk (lv mc ms : Nat) : Room := { frames := lv, cells := mc, slots := ms, locals := 33 * lv }
def PreC (G : Gc) (as : List Value) (E : Wd) (n : Nat) : Array Value → State → Prop := fun a U => a = as.toArray ∧ wdH G E U.heap ∧ U.heap.size = gb G + n ∧ KZ G U U.heap
def QI (G : Gc) (P : Int → Wd → Prop) (n : Nat) : Array Value → State → Outcome → State → Prop := fun _ st o t => (∃ (r : Int) (E' : Wd), o = .returned (some (.int (iI r))) ∧ P r E' ∧ wdH G E' t.heap ∧ t.heap.size = gb G + n) ∧ va_F (gO G) st t
def QV (G : Gc) (P : Wd → Prop) (n : Nat) : Array Value → State → Outcome → State → Prop := fun _ st o t => (∃ (E' : Wd), o = .returned none ∧ P E' ∧ wdH G E' t.heap ∧ t.heap.size = gb G + n) ∧ va_F (gO G) st t
/-- a method's contract: it answers an int -/
def CI (l : Launch) (G : Gc) (lv : Nat) (y : MethodName) (cc : ByteArray) (nL : Nat) (ty : FieldType) (as : List Value) (E : Wd) (n mc ms : Nat) (P : Int → Wd → Prop) : Prop :=
  Met l y (Cond.code y cc nL (some ty) :: TB) (rmk lv mc ms) (PreC G as E n) (QI G P (n + mc)) mc ms (gO G)
/-- a method's contract: it answers nothing -/
def CV (l : Launch) (G : Gc) (lv : Nat) (y : MethodName) (cc : ByteArray) (nL : Nat) (as : List Value) (E : Wd) (n mc ms : Nat) (P : Wd → Prop) : Prop :=
  Met l y (Cond.code y cc nL none :: TB) (rmk lv mc ms) (PreC G as E n) (QV G P (n + mc)) mc ms (gO G)
theorem PreC.blind {G : Gc} {as : List Value} {E : Wd} {n : Nat} : FrameBlind (PreC G as E n) := fun a U g mk h => ⟨h.1, h.2.1, h.2.2.1, h.2.2.2.calling⟩
/-! the entry -/
def lsO (as : List Value) (nL : Nat) : List (Option Value) := as.map some ++ List.replicate (nL - as.length) none
theorem lv_args_mem : ∀ (as : List Value) (k i : Nat) (v : Value), (∀ w ∈ as, w.category = 1) → as[i]? = some v → (k + i, v) ∈ lv_args k as := by
  intro as
  induction as with
  | nil => intro k i v _ h; simp at h
  | cons a l ih =>
    intro k i v hc h
    cases i with
    | zero =>
      simp at h
      subst h
      simp [lv_args]
    | succ j =>
      have := ih (k + 1) j v (fun w hw => hc w (List.mem_cons_of_mem _ hw)) (by simpa using h)
      have ha := hc a List.mem_cons_self
      simp only [lv_args]
      rw [ha]
      rw [show k + (j + 1) = k + 1 + j by omega]
      exact List.mem_cons_of_mem _ this
theorem lsH_entry {as : List Value} {nL : Nat} (hc : ∀ w ∈ as, w.category = 1) (hn : as.length ≤ nL) {L : Array Slot} (h : lv_has L nL (lv_args 0 as)) : lsH L (lsO as nL) := by
  have hlen : (lsO as nL).length = nL := by simp [lsO]; omega
  refine ⟨by rw [hlen]; exact h.1, h.2.1, fun q hq => h.2.2 q ?_⟩
  rw [al_mem] at hq
  unfold lsO at hq
  by_cases hl : q.1 < as.length
  · rw [List.getElem?_append_left (by simpa using hl), List.getElem?_map] at hq
    rw [Option.map_eq_some_iff] at hq
    obtain ⟨v, hv, he⟩ := hq
    cases he
    have := lv_args_mem as 0 q.1 q.2 hc hv
    simpa using this
  · rw [List.getElem?_append_right (by simpa using hl)] at hq
    rw [List.getElem?_replicate] at hq
    split at hq <;> cases hq
theorem lg_sl_len : ∀ (as : List Value), (∀ w ∈ as, w.category = 1) → (lg_sl as).length = as.length := by
  intro as
  induction as with
  | nil => intro _; rfl
  | cons a l ih =>
    intro hc
    have ha := hc a List.mem_cons_self
    have := ih (fun w hw => hc w (List.mem_cons_of_mem _ hw))
    simp [lg_sl, ha] at this ⊢
    omega
def RM (X : Fx) (lv mc ms : Nat) : Prop := fR X = rmk lv mc ms
def RI (X : Fx) (P : Int → Wd → Prop) (n mc ms : Nat) (ty : FieldType) : Prop := fQ X = MQ (fB X) (QI (fG X) P n) (fA X) (fS X) mc ms (gO (fG X)) ∧ (fMe X).sig.returnType = some ty ∧ (fMe X).locks = false
def RV (X : Fx) (P : Wd → Prop) (n mc ms : Nat) : Prop := fQ X = MQ (fB X) (QV (fG X) P n) (fA X) (fS X) mc ms (gO (fG X)) ∧ (fMe X).sig.returnType = none ∧ (fMe X).locks = false
theorem CI.mk {l : Launch} {G : Gc} {lv : Nat} {y : MethodName} {cc : ByteArray} {nL : Nat} {ty : FieldType} {as : List Value} {E : Wd} {n mc ms : Nat} {P : Int → Wd → Prop} (hy : plainFor y = true) (hc : as.all (fun w => w.category == 1) = true) (hn : as.length ≤ nL)
    (body : ∀ X : Fx, fG X = G → fL X = l → Cx X cc y.cls → RM X lv mc ms → RI X P (n + mc) mc ms ty → V X E (n, 0, 0) 0 (lsO as nL) []) : CI l G lv y cc nL ty as E n mc ms P := by
  have hc : ∀ w ∈ as, w.category = 1 := fun w hw => by simpa using List.all_eq_true.mp hc w hw
  refine va_MetF (cc := cc) (maxL := nL) (ret := some ty) hy rfl ?_
  intro p e s m args below meth c s₁ B hml hv
  obtain ⟨rfl, hw, hsz, hkz⟩ := hv
  have hts := atoms_spec (ws := Cond.code y cc nL (some ty) :: TB) B.pre
  have hl := lv_entry as (n := nL) (by rw [lg_sl_len as hc]; exact hn)
  rw [lg_entry_eq]
  have hb := body (p, l, e, rmk lv mc ms, s, m, as.toArray, below, meth, c, G, MQ below (QI G P (n + mc)) as.toArray s mc ms (gO G)) rfl rfl ⟨B.exec, B.bytes, findClass_of_methodNamed B.named, fun w hw => hts w (List.mem_cons_of_mem _ hw), hkz, by rw [hsz]; exact Nat.le_add_right _ _⟩ rfl ⟨rfl, B.returns, B.notSynchronized⟩
  exact hb s.heap [] _ ⟨hw, hsz, va_S.rf, lsH_entry hc hn hl, by rw [hml]; simp [lsO]; omega⟩
theorem CV.mk {l : Launch} {G : Gc} {lv : Nat} {y : MethodName} {cc : ByteArray} {nL : Nat} {as : List Value} {E : Wd} {n mc ms : Nat} {P : Wd → Prop} (hy : plainFor y = true) (hc : as.all (fun w => w.category == 1) = true) (hn : as.length ≤ nL)
    (body : ∀ X : Fx, fG X = G → fL X = l → Cx X cc y.cls → RM X lv mc ms → RV X P (n + mc) mc ms → (y.name = "<init>" → (fMe X).name = "<init>") → V X E (n, 0, 0) 0 (lsO as nL) []) : CV l G lv y cc nL as E n mc ms P := by
  have hc : ∀ w ∈ as, w.category = 1 := fun w hw => by simpa using List.all_eq_true.mp hc w hw
  refine va_MetF (cc := cc) (maxL := nL) (ret := none) hy rfl ?_
  intro p e s m args below meth c s₁ B hml hv
  obtain ⟨rfl, hw, hsz, hkz⟩ := hv
  have hts := atoms_spec (ws := Cond.code y cc nL none :: TB) B.pre
  have hl := lv_entry as (n := nL) (by rw [lg_sl_len as hc]; exact hn)
  rw [lg_entry_eq]
  have hb := body (p, l, e, rmk lv mc ms, s, m, as.toArray, below, meth, c, G, MQ below (QV G P (n + mc)) as.toArray s mc ms (gO G)) rfl rfl ⟨B.exec, B.bytes, findClass_of_methodNamed B.named, fun w hw => hts w (List.mem_cons_of_mem _ hw), hkz, by rw [hsz]; exact Nat.le_add_right _ _⟩ rfl ⟨rfl, B.returns, B.notSynchronized⟩ (fun h => by rw [← h]; exact (name_of_methodNamed B.named B.method).1)
  exact hb s.heap [] _ ⟨hw, hsz, va_S.rf, lsH_entry hc hn hl, by rw [hml]; simp [lsO]; omega⟩
section Call
variable {X : Fx} {E : Wd} {z : Nat × Nat × Nat} {pc : Nat} {ls ls' : List (Option Value)} {st stk : List Value} {cc : ByteArray} {ow : String}
theorem v_ireturn (cx : Cx X cc ow) {P : Int → Wd → Prop} {n mc ms : Nat} {ty : FieldType} (hI : RI X P n mc ms ty) {r : Int} (hty : narrow ty (.int (iI r)) = .int (iI r)) (hP : P r E) (hd : decode cc pc = .ok (.ireturn, 1)) : V X E (n, mc, ms) pc ls [.int (iI r)] := by
  intro H locs L h1
  obtain ⟨q1, q2, q3⟩ := hI
  show W _ _ _ _ _ _ _ _ _ _ _ _ _ _ (fQ X) _
  rw [q1]
  exact W.zret (ty := ty) cx.1 cx.2.1 q2 hty (fun t ht hW => ⟨⟨r, E, rfl, hP, by rw [ht]; exact h1.1, by rw [ht]; exact h1.2.1⟩, h1.2.2.1.F ht⟩) h1.2.2.1.2.2 hd q3
theorem v_return (cx : Cx X cc ow) {P : Wd → Prop} {n mc ms : Nat} (hI : RV X P n mc ms) (hP : P E) (hd : decode cc pc = .ok (.return_, 1)) : V X E (n, mc, ms) pc ls [] := by
  intro H locs L h1
  obtain ⟨q1, q2, q3⟩ := hI
  show W _ _ _ _ _ _ _ _ _ _ _ _ _ _ (fQ X) _
  rw [q1]
  exact W.vret cx.1 cx.2.1 q2 (fun t ht hW => ⟨⟨E, rfl, hP, by rw [ht]; exact h1.1, by rw [ht]; exact h1.2.1⟩, h1.2.2.1.F ht⟩) h1.2.2.1.2.2 hd q3
/-- what the tables say of a call of an instance method -/
def MLB (ow : String) (idx : Nat) (y : MethodName) (cy : ByteArray) (nLy : Nat) (ret : Option FieldType) (na : Nat) : Prop :=
  Cond.initialized y.cls ∈ TB ∧ Cond.code y cy nLy ret ∈ TB ∧ (y.cls ≠ "java/lang/invoke/MethodHandle" ∧ y.cls ≠ "java/lang/invoke/VarHandle" ∧ (parseMethodDescriptor y.desc).map (fun d => d.parameters.length) = some na) ∧ nLy ≤ 14 ∧ (Cond.methodLink ow idx y ∈ TB ∨ ∃ host, Cond.methodLinkNest ow idx y host ∈ TN)
def MLV (ow : String) (idx : Nat) (y : MethodName) (cy : ByteArray) (nLy : Nat) (ret : Option FieldType) (na : Nat) : Prop :=
  MLB ow idx y cy nLy ret na ∧ Cond.methodLink ow idx y ∈ TB ∧ Cond.instanceMethod y ∈ TB ∧ Cond.selects y.cls y y ∈ TB
def MLS (ow : String) (idx : Nat) (y : MethodName) (cy : ByteArray) (nLy : Nat) (ret : Option FieldType) (na : Nat) : Prop :=
  MLB ow idx y cy nLy ret na ∧ Cond.static y ∈ TB
def MLI (ow : String) (idx : Nat) (y : MethodName) (cy : ByteArray) (nLy : Nat) (na : Nat) : Prop :=
  MLB ow idx y cy nLy none na ∧ y.name = "<init>" ∧ Cond.instanceMethod y ∈ TB
theorem code_good {y : MethodName} {cy : ByteArray} {nLy : Nat} {ret : Option FieldType} (h : Cond.code y cy nLy ret ∈ TB) : GoodIn TB (Cond.code y cy nLy ret :: TB) := fun w hw => by
  rcases List.mem_cons.mp hw with rfl | hw
  · exact TB_good _ h
  · exact TB_good w hw
theorem rm_fit {lv lv' mc ms mc' ms' nL : Nat} (h1 : lv' + 1 ≤ lv) (h2 : nL ≤ 14) : (rmk lv' mc' ms').frames + 1 ≤ (rmk lv mc ms).frames ∧ 8 + (nL + 11) + (rmk lv' mc' ms').locals ≤ (rmk lv mc ms).locals := by
  refine ⟨h1, ?_⟩
  show 8 + (nL + 11) + 33 * lv' ≤ 33 * lv
  omega
theorem pre_at (cx : Cx X cc ow) {H : Heap} {locs : List Loc} {L : Array Slot} (h1 : Rd X E z ls H locs L) (as : List Value) : ∀ U : State, U.heap = H → (fS X).WarmedH U.vm → PreC (fG X) as E z.1 as.toArray U := fun U hU hW => ⟨rfl, by rw [hU]; exact h1.1, by rw [hU]; exact h1.2.1, cx.2.2.2.2.1.move hW (fun a ha hn => by rw [hU]; exact h1.2.2.1.2.1 a ha hn)⟩
theorem S_call {G : Gc} {H0 H H' : Heap} {locs Lx : List Loc} (h : va_S (gO G) H0 H locs) (hz : H.size ≤ H'.size) (hk : ∀ q : Nat, q < H.size → ¬ gO G q → H'[q]? = H[q]?) (hL : ∀ q ∈ Lx, gO G q.base) : va_S (gO G) H0 H' (locs ++ Lx) :=
  ⟨Nat.le_trans h.1 hz, fun q h1 h2 => (hk q (Nat.lt_of_lt_of_le h1 h.1) h2).trans (h.2.1 q h1 h2), fun q hq => (List.mem_append.mp hq).elim (h.2.2 q) (hL q)⟩
/-- behind a run that answers an int -/
theorem after_I {as : List Value} {P : Int → Wd → Prop} {mc ms : Nat} {H : Heap} {locs : List Loc} {L : Array Slot} (h1 : Rd X E z ls H locs L)
    (hr : va_Run (fP X) (fL X) (fE X) (fR X) (fS X) (fM X) (fA X) (fB X) (fMe X) (fC X) H locs z.2.1 z.2.2 mc ms (F0 (fM X) pc L stk) st (QI (fG X) P (z.1 + mc) as.toArray) (gO (fG X)))
    (kk : ∀ (r : Int) (E' : Wd), P r E' → V X E' (z.1 + mc, z.2.1 + mc, z.2.2 + ms) (pc + 3) ls (.int (iI r) :: st)) : WX X H locs z pc L stk := by
  intro T hT X0
  obtain ⟨v, st₀, t, T', Lx, h0, X', hL, e1, e2, ⟨⟨r, E', hv, hp, hw, hsz⟩, hz, hk⟩, stp⟩ := hr T hT X0
  cases hv
  rw [h0] at hz hk
  obtain ⟨t2, a1, b1⟩ := kk r E' hp T'.heap (locs ++ Lx) L ⟨by rw [e1]; exact hw, by rw [e1]; exact hsz, S_call h1.2.2.1 (by rw [e1]; exact hz) (fun q g1 g2 => by rw [e1]; exact hk q g1 g2) hL, h1.2.2.2⟩ T' rfl X'
  exact ⟨t2, stp t2 a1, b1⟩
theorem after_V {as : List Value} {P : Wd → Prop} {mc ms : Nat} {H : Heap} {locs : List Loc} {L : Array Slot} (h1 : Rd X E z ls H locs L)
    (hr : va_Run (fP X) (fL X) (fE X) (fR X) (fS X) (fM X) (fA X) (fB X) (fMe X) (fC X) H locs z.2.1 z.2.2 mc ms (F0 (fM X) pc L stk) st (QV (fG X) P (z.1 + mc) as.toArray) (gO (fG X)))
    (kk : ∀ (E' : Wd), P E' → V X E' (z.1 + mc, z.2.1 + mc, z.2.2 + ms) (pc + 3) ls st) : WX X H locs z pc L stk := by
  intro T hT X0
  obtain ⟨v, st₀, t, T', Lx, h0, X', hL, e1, e2, ⟨⟨E', hv, hp, hw, hsz⟩, hz, hk⟩, stp⟩ := hr T hT X0
  cases hv
  rw [h0] at hz hk
  obtain ⟨t2, a1, b1⟩ := kk E' hp T'.heap (locs ++ Lx) L ⟨by rw [e1]; exact hw, by rw [e1]; exact hsz, S_call h1.2.2.1 (by rw [e1]; exact hz) (fun q g1 g2 => by rw [e1]; exact hk q g1 g2) hL, h1.2.2.2⟩ T' rfl X'
  exact ⟨t2, stp t2 a1, b1⟩
theorem fix_of (cx : Cx X cc ow) (hl : ls.length = (fC X).maxLocals) : CallFix (fP X) (fM X) (fC X) cc ls.length (fS X) (fA X) TB ow := ⟨cx.1, cx.2.1, hl.symm, cx.2.2.1, cx.2.2.2.1⟩
theorem v_runV (cx : Cx X cc ow) {lv mc ms lv' mc' ms' nLy idx n o ci : Nat} {y : MethodName} {cy : ByteArray} {ret : Option FieldType} {as : List Value} {Qc : Array Value → State → Outcome → State → Prop} {fs : List Value} {qc : vw_C} (hR : RM X lv mc ms) {H : Heap} {locs : List Loc} {L : Array Slot} (h1 : Rd X E z ls H locs L)
    (hM : Met (fL X) y (Cond.code y cy nLy ret :: TB) (rmk lv' mc' ms') (PreC (fG X) (.ref (gb (fG X) + o) :: as) E z.1) Qc mc' ms' (gO (fG X))) (hl : MLV ow idx y cy nLy ret n) (hn : as.length = n) (hlv : lv' + 1 ≤ lv) (he : E o = some (.inr (ci, fs))) (hq : vwCl[ci]? = some qc) (hqc : qc.1 = y.cls)
    (hstk : stk = as.reverse ++ .ref (gb (fG X) + o) :: st) (hcat : (st.map fun v => v.category).sum ≤ 8) (hroom : z.2.1 + mc' ≤ mc ∧ z.2.2 + ms' ≤ ms) (hd : decode cc pc = .ok (.invokevirtual idx, 3)) :
    va_Run (fP X) (fL X) (fE X) (fR X) (fS X) (fM X) (fA X) (fB X) (fMe X) (fC X) H locs z.2.1 z.2.2 mc' ms' (F0 (fM X) pc L stk) st (Qc (Value.ref (gb (fG X) + o) :: as).toArray) (gO (fG X)) := by
  obtain ⟨⟨b1, b2, b3, b4, -⟩, b5, b6, b7⟩ := hl
  have ht := cx.2.2.2.1
  subst hstk
  rw [hR]
  have hp := h1.1 o _ he
  refine va_runV (C := y.cls) (Ts := TB) (n := n) (fix_of cx h1.2.2.2.2) hM ⟨callB_of n ht (code_good b2) rfl rfl rfl (ht _ b1) (ht _ b5) b3 (rm_fit hlv b4), ht _ b6, ht _ b7⟩ ⟨PreC.blind, ?_, pre_at cx h1 _⟩ rfl hn h1.2.2.2.1.1 rfl (lv_room hcat) hd hroom
  have := va_recv cx.2.2.2.2.1.1 (h1.1.one he) hq (q0 := 0) rfl
  rw [hqc] at this
  exact this
theorem va_nwTN (cx : Cx X cc ow) {w : Cond} (h : w ∈ TN) : va_Nw w (fS X) := cx.2.2.2.2.1.2.2.1 w h
theorem v_runS (cx : Cx X cc ow) {lv mc ms lv' mc' ms' nLy idx n : Nat} {y : MethodName} {cy : ByteArray} {ret : Option FieldType} {as : List Value} {Qc : Array Value → State → Outcome → State → Prop} (hR : RM X lv mc ms) {H : Heap} {locs : List Loc} {L : Array Slot} (h1 : Rd X E z ls H locs L)
    (hM : Met (fL X) y (Cond.code y cy nLy ret :: TB) (rmk lv' mc' ms') (PreC (fG X) as E z.1) Qc mc' ms' (gO (fG X))) (hl : MLS ow idx y cy nLy ret n) (hn : as.length = n) (hlv : lv' + 1 ≤ lv)
    (hstk : stk = as.reverse ++ st) (hcat : (st.map fun v => v.category).sum ≤ 8) (hroom : z.2.1 + mc' ≤ mc ∧ z.2.2 + ms' ≤ ms) (hd : decode cc pc = .ok (.invokestatic idx, 3)) :
    va_Run (fP X) (fL X) (fE X) (fR X) (fS X) (fM X) (fA X) (fB X) (fMe X) (fC X) H locs z.2.1 z.2.2 mc' ms' (F0 (fM X) pc L stk) st (Qc as.toArray) (gO (fG X)) := by
  obtain ⟨⟨b1, b2, b3, b4, b5⟩, b6⟩ := hl
  have ht := cx.2.2.2.1
  subst hstk
  rw [hR]
  rcases b5 with b5 | ⟨host, b5⟩
  · exact va_runS (Ts := TB) (n := n) (fix_of cx h1.2.2.2.2) hM ⟨callB_of n ht (code_good b2) rfl rfl rfl (ht _ b1) (ht _ b5) b3 (rm_fit hlv b4), ht _ b6⟩ ⟨PreC.blind, pre_at cx h1 _⟩ rfl hn h1.2.2.2.1.1 rfl (lv_room hcat) hd hroom
  · exact va_runSN (Ts := TB) (n := n) (fix_of cx h1.2.2.2.2) hM ⟨va_cnB n ht (code_good b2) rfl rfl rfl (va_nwTN cx b5) (ht _ b1) b3 (rm_fit hlv b4), ht _ b6, trivial⟩ ⟨PreC.blind, pre_at cx h1 _⟩ rfl hn h1.2.2.2.1.1 rfl (lv_room hcat) hd hroom
theorem v_runI (cx : Cx X cc ow) {lv mc ms lv' mc' ms' nLy idx n a : Nat} {y : MethodName} {cy : ByteArray} {as : List Value} {Qc : Array Value → State → Outcome → State → Prop} (hR : RM X lv mc ms) {H : Heap} {locs : List Loc} {L : Array Slot} (h1 : Rd X E z ls H locs L)
    (hM : Met (fL X) y (Cond.code y cy nLy none :: TB) (rmk lv' mc' ms') (PreC (fG X) (.ref a :: as) E z.1) Qc mc' ms' (gO (fG X))) (hl : MLI ow idx y cy nLy n) (hn : as.length = n) (hlv : lv' + 1 ≤ lv)
    (hstk : stk = as.reverse ++ .ref a :: st) (hcat : (st.map fun v => v.category).sum ≤ 8) (hroom : z.2.1 + mc' ≤ mc ∧ z.2.2 + ms' ≤ ms) (hd : decode cc pc = .ok (.invokespecial idx, 3)) :
    va_Run (fP X) (fL X) (fE X) (fR X) (fS X) (fM X) (fA X) (fB X) (fMe X) (fC X) H locs z.2.1 z.2.2 mc' ms' (F0 (fM X) pc L stk) st (Qc (Value.ref a :: as).toArray) (gO (fG X)) := by
  obtain ⟨⟨b1, b2, b3, b4, b5⟩, b6, b7⟩ := hl
  have ht := cx.2.2.2.1
  subst hstk
  rw [hR]
  rcases b5 with b5 | ⟨host, b5⟩
  · exact va_runI (Ts := TB) (n := n) (fix_of cx h1.2.2.2.2) hM ⟨callB_of n ht (code_good b2) rfl rfl rfl (ht _ b1) (ht _ b5) b3 (rm_fit hlv b4), b6, ht _ b7⟩ ⟨PreC.blind, pre_at cx h1 _⟩ rfl hn h1.2.2.2.1.1 rfl (lv_room hcat) hd hroom
  · exact va_runIN (Ts := TB) (n := n) (fix_of cx h1.2.2.2.2) hM ⟨va_cnB n ht (code_good b2) rfl rfl rfl (va_nwTN cx b5) (ht _ b1) b3 (rm_fit hlv b4), b6, ht _ b7⟩ ⟨PreC.blind, pre_at cx h1 _⟩ rfl hn h1.2.2.2.1.1 rfl (lv_room hcat) hd hroom
theorem v_callVI (cx : Cx X cc ow) {lv mc ms lv' nLy idx o ci : Nat} {y : MethodName} {cy : ByteArray} {ty : FieldType} {as : List Value} {P : Int → Wd → Prop} {fs : List Value} {qc : vw_C} (hR : RM X lv mc ms) (hM : CI (fL X) (fG X) lv' y cy nLy ty (.ref (gb (fG X) + o) :: as) E z.1 0 0 P) (hl : MLV ow idx y cy nLy (some ty) as.length) (hlv : lv' + 1 ≤ lv) (he : E o = some (.inr (ci, fs))) (hq : vwCl[ci]? = some qc) (hqc : qc.1 = y.cls)
    (hstk : stk = as.reverse ++ .ref (gb (fG X) + o) :: st) (hcat : (st.map fun v => v.category).sum ≤ 8) (hroom : z.2.1 ≤ mc ∧ z.2.2 ≤ ms) (hd : decode cc pc = .ok (.invokevirtual idx, 3)) (kk : ∀ (r : Int) (E' : Wd), P r E' → V X E' z (pc + 3) ls (.int (iI r) :: st)) : V X E z pc ls stk :=
  fun H locs L h1 => after_I h1 (v_runV cx hR h1 hM hl rfl hlv he hq hqc hstk hcat hroom hd) kk
theorem v_callVV (cx : Cx X cc ow) {lv mc ms lv' nLy idx o ci : Nat} {y : MethodName} {cy : ByteArray} {as : List Value} {P : Wd → Prop} {fs : List Value} {qc : vw_C} (hR : RM X lv mc ms) (hM : CV (fL X) (fG X) lv' y cy nLy (.ref (gb (fG X) + o) :: as) E z.1 0 0 P) (hl : MLV ow idx y cy nLy none as.length) (hlv : lv' + 1 ≤ lv) (he : E o = some (.inr (ci, fs))) (hq : vwCl[ci]? = some qc) (hqc : qc.1 = y.cls)
    (hstk : stk = as.reverse ++ .ref (gb (fG X) + o) :: st) (hcat : (st.map fun v => v.category).sum ≤ 8) (hroom : z.2.1 ≤ mc ∧ z.2.2 ≤ ms) (hd : decode cc pc = .ok (.invokevirtual idx, 3)) (kk : ∀ (E' : Wd), P E' → V X E' z (pc + 3) ls st) : V X E z pc ls stk :=
  fun H locs L h1 => after_V h1 (v_runV cx hR h1 hM hl rfl hlv he hq hqc hstk hcat hroom hd) kk
theorem v_callSI (cx : Cx X cc ow) {lv mc ms lv' nLy idx : Nat} {y : MethodName} {cy : ByteArray} {ty : FieldType} {as : List Value} {P : Int → Wd → Prop} (hR : RM X lv mc ms) (hM : CI (fL X) (fG X) lv' y cy nLy ty as E z.1 0 0 P) (hl : MLS ow idx y cy nLy (some ty) as.length) (hlv : lv' + 1 ≤ lv)
    (hstk : stk = as.reverse ++ st) (hcat : (st.map fun v => v.category).sum ≤ 8) (hroom : z.2.1 ≤ mc ∧ z.2.2 ≤ ms) (hd : decode cc pc = .ok (.invokestatic idx, 3)) (kk : ∀ (r : Int) (E' : Wd), P r E' → V X E' z (pc + 3) ls (.int (iI r) :: st)) : V X E z pc ls stk :=
  fun H locs L h1 => after_I h1 (v_runS cx hR h1 hM hl rfl hlv hstk hcat hroom hd) kk
theorem v_callSV (cx : Cx X cc ow) {lv mc ms lv' nLy idx : Nat} {y : MethodName} {cy : ByteArray} {as : List Value} {P : Wd → Prop} (hR : RM X lv mc ms) (hM : CV (fL X) (fG X) lv' y cy nLy as E z.1 0 0 P) (hl : MLS ow idx y cy nLy none as.length) (hlv : lv' + 1 ≤ lv)
    (hstk : stk = as.reverse ++ st) (hcat : (st.map fun v => v.category).sum ≤ 8) (hroom : z.2.1 ≤ mc ∧ z.2.2 ≤ ms) (hd : decode cc pc = .ok (.invokestatic idx, 3)) (kk : ∀ (E' : Wd), P E' → V X E' z (pc + 3) ls st) : V X E z pc ls stk :=
  fun H locs L h1 => after_V h1 (v_runS cx hR h1 hM hl rfl hlv hstk hcat hroom hd) kk
theorem v_callK (cx : Cx X cc ow) {lv mc ms lv' mc' ms' nLy idx a : Nat} {y : MethodName} {cy : ByteArray} {as : List Value} {P : Wd → Prop} (hR : RM X lv mc ms) (hM : CV (fL X) (fG X) lv' y cy nLy (.ref a :: as) E z.1 mc' ms' P) (hl : MLI ow idx y cy nLy as.length) (hlv : lv' + 1 ≤ lv)
    (hstk : stk = as.reverse ++ .ref a :: st) (hcat : (st.map fun v => v.category).sum ≤ 8) (hroom : z.2.1 + mc' ≤ mc ∧ z.2.2 + ms' ≤ ms) (hd : decode cc pc = .ok (.invokespecial idx, 3)) (kk : ∀ (E' : Wd), P E' → V X E' (z.1 + mc', z.2.1 + mc', z.2.2 + ms') (pc + 3) ls st) : V X E z pc ls stk :=
  fun H locs L h1 => after_V h1 (v_runI cx hR h1 hM hl rfl hlv hstk hcat hroom hd) kk
end Call
end
section
set_option maxRecDepth 100000 in
theorem flX8_9 : FL RX8 9 8 0 := ⟨_, _, _, rfl, by decide, tb_in8, tbm 68 (by decide +kernel) rfl⟩
set_option maxRecDepth 100000 in
theorem fpX8_9 : FP RX8 9 8 0 true (.array .int) := ⟨_, _, _, tyX8, rfl, by decide, tb_in8, tbm 68 (by decide +kernel) rfl, tyX8_ok, nmX8, rfl, rfl, rfl⟩
set_option maxRecDepth 100000 in
theorem flX11_76 : FL RX11 76 8 0 := ⟨_, _, _, rfl, by decide, tb_in8, tbm 69 (by decide +kernel) rfl⟩
set_option maxRecDepth 100000 in
theorem flX8_15 : FL RX8 15 8 1 := ⟨_, _, _, rfl, by decide, tb_in8, tbm 70 (by decide +kernel) rfl⟩
set_option maxRecDepth 100000 in
theorem fpX8_15 : FP RX8 15 8 1 true (.array .int) := ⟨_, _, _, tyX8, rfl, by decide, tb_in8, tbm 70 (by decide +kernel) rfl, tyX8_ok, nmX8, rfl, rfl, rfl⟩
set_option maxRecDepth 100000 in
theorem flX11_84 : FL RX11 84 8 1 := ⟨_, _, _, rfl, by decide, tb_in8, tbm 71 (by decide +kernel) rfl⟩
set_option maxRecDepth 100000 in
theorem flX8_18 : FL RX8 18 8 2 := ⟨_, _, _, rfl, by decide, tb_in8, tbm 72 (by decide +kernel) rfl⟩
set_option maxRecDepth 100000 in
theorem fpX8_18 : FP RX8 18 8 2 true (.array .int) := ⟨_, _, _, tyX8, rfl, by decide, tb_in8, tbm 72 (by decide +kernel) rfl, tyX8_ok, nmX8, rfl, rfl, rfl⟩
set_option maxRecDepth 100000 in
theorem flX11_87 : FL RX11 87 8 2 := ⟨_, _, _, rfl, by decide, tb_in8, tbm 73 (by decide +kernel) rfl⟩
set_option maxRecDepth 100000 in
theorem flX8_25 : FL RX8 25 8 3 := ⟨_, _, _, rfl, by decide, tb_in8, tbm 74 (by decide +kernel) rfl⟩
set_option maxRecDepth 100000 in
theorem fpX8_25 : FP RX8 25 8 3 false (.int) := ⟨_, _, _, tyX8, rfl, by decide, tb_in8, tbm 74 (by decide +kernel) rfl, tyX8_ok, nmX8, rfl, rfl, rfl⟩
set_option maxRecDepth 100000 in
theorem flX11_59 : FL RX11 59 8 3 := ⟨_, _, _, rfl, by decide, tb_in8, tbm 75 (by decide +kernel) rfl⟩
set_option maxRecDepth 100000 in
theorem flX2_7 : FL RX2 7 2 0 := ⟨_, _, _, rfl, by decide, tb_in2, tbm 92 (by decide +kernel) rfl⟩
set_option maxRecDepth 100000 in
theorem fpX2_7 : FP RX2 7 2 0 false (.int) := ⟨_, _, _, tyX2, rfl, by decide, tb_in2, tbm 92 (by decide +kernel) rfl, tyX2_ok, nmX2, rfl, rfl, rfl⟩
set_option maxRecDepth 100000 in
theorem flX11_156 : FL RX11 156 2 0 := ⟨_, _, _, rfl, by decide, tb_in2, tbm 93 (by decide +kernel) rfl⟩
set_option maxRecDepth 100000 in
theorem flX2_13 : FL RX2 13 2 1 := ⟨_, _, _, rfl, by decide, tb_in2, tbm 94 (by decide +kernel) rfl⟩
set_option maxRecDepth 100000 in
theorem fpX2_13 : FP RX2 13 2 1 false (.int) := ⟨_, _, _, tyX2, rfl, by decide, tb_in2, tbm 94 (by decide +kernel) rfl, tyX2_ok, nmX2, rfl, rfl, rfl⟩
set_option maxRecDepth 100000 in
theorem flX9_134 : FL RX9 134 2 1 := ⟨_, _, _, rfl, by decide, tb_in2, tbm 95 (by decide +kernel) rfl⟩
set_option maxRecDepth 100000 in
theorem flX0_9 : FL RX0 9 0 0 := ⟨_, _, _, rfl, by decide, tb_in0, tbm 107 (by decide +kernel) rfl⟩
set_option maxRecDepth 100000 in
theorem fpX0_9 : FP RX0 9 0 0 false (.int) := ⟨_, _, _, tyX0, rfl, by decide, tb_in0, tbm 107 (by decide +kernel) rfl, tyX0_ok, nmX0, rfl, rfl, rfl⟩
set_option maxRecDepth 100000 in
theorem flX11_165 : FL RX11 165 0 0 := ⟨_, _, _, rfl, by decide, tb_in0, tbm 108 (by decide +kernel) rfl⟩
set_option maxRecDepth 100000 in
theorem flX0_15 : FL RX0 15 0 1 := ⟨_, _, _, rfl, by decide, tb_in0, tbm 109 (by decide +kernel) rfl⟩
set_option maxRecDepth 100000 in
theorem fpX0_15 : FP RX0 15 0 1 false (.int) := ⟨_, _, _, tyX0, rfl, by decide, tb_in0, tbm 109 (by decide +kernel) rfl, tyX0_ok, nmX0, rfl, rfl, rfl⟩
set_option maxRecDepth 100000 in
theorem flX11_168 : FL RX11 168 0 1 := ⟨_, _, _, rfl, by decide, tb_in0, tbm 110 (by decide +kernel) rfl⟩
set_option maxRecDepth 100000 in
theorem flX0_18 : FL RX0 18 0 2 := ⟨_, _, _, rfl, by decide, tb_in0, tbm 111 (by decide +kernel) rfl⟩
set_option maxRecDepth 100000 in
theorem fpX0_18 : FP RX0 18 0 2 false (.int) := ⟨_, _, _, tyX0, rfl, by decide, tb_in0, tbm 111 (by decide +kernel) rfl, tyX0_ok, nmX0, rfl, rfl, rfl⟩
set_option maxRecDepth 100000 in
theorem flX9_125 : FL RX9 125 0 2 := ⟨_, _, _, rfl, by decide, tb_in0, tbm 112 (by decide +kernel) rfl⟩
set_option maxRecDepth 100000 in
theorem flX0_21 : FL RX0 21 0 3 := ⟨_, _, _, rfl, by decide, tb_in0, tbm 113 (by decide +kernel) rfl⟩
set_option maxRecDepth 100000 in
theorem fpX0_21 : FP RX0 21 0 3 false (.int) := ⟨_, _, _, tyX0, rfl, by decide, tb_in0, tbm 113 (by decide +kernel) rfl, tyX0_ok, nmX0, rfl, rfl, rfl⟩
set_option maxRecDepth 100000 in
theorem flX6_66 : FL RX6 66 0 3 := ⟨_, _, _, rfl, by decide, tb_in0, tbm 114 (by decide +kernel) rfl⟩
set_option maxRecDepth 100000 in
theorem flX9_128 : FL RX9 128 0 3 := ⟨_, _, _, rfl, by decide, tb_in0, tbm 115 (by decide +kernel) rfl⟩
set_option maxRecDepth 100000 in
theorem flX0_24 : FL RX0 24 0 4 := ⟨_, _, _, rfl, by decide, tb_in0, tbm 116 (by decide +kernel) rfl⟩
set_option maxRecDepth 100000 in
theorem fpX0_24 : FP RX0 24 0 4 false (.int) := ⟨_, _, _, tyX0, rfl, by decide, tb_in0, tbm 116 (by decide +kernel) rfl, tyX0_ok, nmX0, rfl, rfl, rfl⟩
set_option maxRecDepth 100000 in
theorem flX6_61 : FL RX6 61 0 4 := ⟨_, _, _, rfl, by decide, tb_in0, tbm 117 (by decide +kernel) rfl⟩
set_option maxRecDepth 100000 in
theorem flX9_131 : FL RX9 131 0 4 := ⟨_, _, _, rfl, by decide, tb_in0, tbm 118 (by decide +kernel) rfl⟩
set_option maxRecDepth 100000 in
theorem flX0_27 : FL RX0 27 0 5 := ⟨_, _, _, rfl, by decide, tb_in0, tbm 119 (by decide +kernel) rfl⟩
set_option maxRecDepth 100000 in
theorem fpX0_27 : FP RX0 27 0 5 false (.int) := ⟨_, _, _, tyX0, rfl, by decide, tb_in0, tbm 119 (by decide +kernel) rfl, tyX0_ok, nmX0, rfl, rfl, rfl⟩
set_option maxRecDepth 100000 in
theorem flX9_137 : FL RX9 137 0 5 := ⟨_, _, _, rfl, by decide, tb_in0, tbm 120 (by decide +kernel) rfl⟩
set_option maxRecDepth 100000 in
theorem flX1_13 : FL RX1 13 1 0 := ⟨_, _, _, rfl, by decide, tb_in1, tbm 142 (by decide +kernel) rfl⟩
set_option maxRecDepth 100000 in
theorem fpX1_13 : FP RX1 13 1 0 false (.int) := ⟨_, _, _, tyX1, rfl, by decide, tb_in1, tbm 142 (by decide +kernel) rfl, tyX1_ok, nmX1, rfl, rfl, rfl⟩
set_option maxRecDepth 100000 in
theorem flX11_118 : FL RX11 118 1 0 := ⟨_, _, _, rfl, by decide, tb_in1, tbm 143 (by decide +kernel) rfl⟩
set_option maxRecDepth 100000 in
theorem flX1_19 : FL RX1 19 1 1 := ⟨_, _, _, rfl, by decide, tb_in1, tbm 144 (by decide +kernel) rfl⟩
set_option maxRecDepth 100000 in
theorem fpX1_19 : FP RX1 19 1 1 false (.int) := ⟨_, _, _, tyX1, rfl, by decide, tb_in1, tbm 144 (by decide +kernel) rfl, tyX1_ok, nmX1, rfl, rfl, rfl⟩
set_option maxRecDepth 100000 in
theorem flX9_118 : FL RX9 118 1 1 := ⟨_, _, _, rfl, by decide, tb_in1, tbm 145 (by decide +kernel) rfl⟩
set_option maxRecDepth 100000 in
theorem flX11_171 : FL RX11 171 1 1 := ⟨_, _, _, rfl, by decide, tb_in1, tbm 146 (by decide +kernel) rfl⟩
set_option maxRecDepth 100000 in
theorem flX3_9 : FL RX3 9 3 0 := ⟨_, _, _, rfl, by decide, tb_in3, tbm 158 (by decide +kernel) rfl⟩
set_option maxRecDepth 100000 in
theorem fpX3_9 : FP RX3 9 3 0 true (.array .int) := ⟨_, _, _, tyX3, rfl, by decide, tb_in3, tbm 158 (by decide +kernel) rfl, tyX3_ok, nmX3, rfl, rfl, rfl⟩
set_option maxRecDepth 100000 in
theorem flX11_136 : FL RX11 136 3 0 := ⟨_, _, _, rfl, by decide, tb_in3, tbm 159 (by decide +kernel) rfl⟩
set_option maxRecDepth 100000 in
theorem flX3_15 : FL RX3 15 3 1 := ⟨_, _, _, rfl, by decide, tb_in3, tbm 160 (by decide +kernel) rfl⟩
set_option maxRecDepth 100000 in
theorem fpX3_15 : FP RX3 15 3 1 true (.array .int) := ⟨_, _, _, tyX3, rfl, by decide, tb_in3, tbm 160 (by decide +kernel) rfl, tyX3_ok, nmX3, rfl, rfl, rfl⟩
set_option maxRecDepth 100000 in
theorem flX11_139 : FL RX11 139 3 1 := ⟨_, _, _, rfl, by decide, tb_in3, tbm 161 (by decide +kernel) rfl⟩
set_option maxRecDepth 100000 in
theorem flX3_22 : FL RX3 22 3 2 := ⟨_, _, _, rfl, by decide, tb_in3, tbm 162 (by decide +kernel) rfl⟩
set_option maxRecDepth 100000 in
theorem fpX3_22 : FP RX3 22 3 2 false (.int) := ⟨_, _, _, tyX3, rfl, by decide, tb_in3, tbm 162 (by decide +kernel) rfl, tyX3_ok, nmX3, rfl, rfl, rfl⟩
set_option maxRecDepth 100000 in
theorem flX11_127 : FL RX11 127 3 2 := ⟨_, _, _, rfl, by decide, tb_in3, tbm 163 (by decide +kernel) rfl⟩
set_option maxRecDepth 100000 in
theorem flX5_9 : FL RX5 9 5 0 := ⟨_, _, _, rfl, by decide, tb_in5, tbm 177 (by decide +kernel) rfl⟩
set_option maxRecDepth 100000 in
theorem fpX5_9 : FP RX5 9 5 0 true (.array .int) := ⟨_, _, _, tyX5, rfl, by decide, tb_in5, tbm 177 (by decide +kernel) rfl, tyX5_ok, nmX5, rfl, rfl, rfl⟩
set_option maxRecDepth 100000 in
theorem flX11_188 : FL RX11 188 5 0 := ⟨_, _, _, rfl, by decide, tb_in5, tbm 178 (by decide +kernel) rfl⟩
set_option maxRecDepth 100000 in
theorem flX5_15 : FL RX5 15 5 1 := ⟨_, _, _, rfl, by decide, tb_in5, tbm 179 (by decide +kernel) rfl⟩
set_option maxRecDepth 100000 in
theorem fpX5_15 : FP RX5 15 5 1 true (.array .int) := ⟨_, _, _, tyX5, rfl, by decide, tb_in5, tbm 179 (by decide +kernel) rfl, tyX5_ok, nmX5, rfl, rfl, rfl⟩
set_option maxRecDepth 100000 in
theorem flX11_191 : FL RX11 191 5 1 := ⟨_, _, _, rfl, by decide, tb_in5, tbm 180 (by decide +kernel) rfl⟩
set_option maxRecDepth 100000 in
theorem flX5_18 : FL RX5 18 5 2 := ⟨_, _, _, rfl, by decide, tb_in5, tbm 181 (by decide +kernel) rfl⟩
set_option maxRecDepth 100000 in
theorem fpX5_18 : FP RX5 18 5 2 true (.array .int) := ⟨_, _, _, tyX5, rfl, by decide, tb_in5, tbm 181 (by decide +kernel) rfl, tyX5_ok, nmX5, rfl, rfl, rfl⟩
set_option maxRecDepth 100000 in
theorem flX11_194 : FL RX11 194 5 2 := ⟨_, _, _, rfl, by decide, tb_in5, tbm 182 (by decide +kernel) rfl⟩
set_option maxRecDepth 100000 in
theorem flX5_25 : FL RX5 25 5 3 := ⟨_, _, _, rfl, by decide, tb_in5, tbm 183 (by decide +kernel) rfl⟩
set_option maxRecDepth 100000 in
theorem fpX5_25 : FP RX5 25 5 3 false (.int) := ⟨_, _, _, tyX5, rfl, by decide, tb_in5, tbm 183 (by decide +kernel) rfl, tyX5_ok, nmX5, rfl, rfl, rfl⟩
set_option maxRecDepth 100000 in
theorem flX11_146 : FL RX11 146 5 3 := ⟨_, _, _, rfl, by decide, tb_in5, tbm 184 (by decide +kernel) rfl⟩
set_option maxRecDepth 100000 in
theorem flX9_9 : FL RX9 9 9 0 := ⟨_, _, _, rfl, by decide, tb_in9, tbm 204 (by decide +kernel) rfl⟩
set_option maxRecDepth 100000 in
theorem fpX9_9 : FP RX9 9 9 0 true (.array .int) := ⟨_, _, _, tyX9, rfl, by decide, tb_in9, tbm 204 (by decide +kernel) rfl, tyX9_ok, nmX9, rfl, rfl, rfl⟩
set_option maxRecDepth 100000 in
theorem flX6_48 : FL RX6 48 9 0 := ⟨_, _, _, rfl, by decide, tb_in9, tbm 205 (by decide +kernel) rfl⟩
set_option maxRecDepth 100000 in
theorem flX11_111 : FL RX11 111 9 0 := ⟨_, _, _, rfl, by decide, tb_in9, tbm 206 (by decide +kernel) rfl⟩
set_option maxRecDepth 100000 in
theorem flX9_18 : FL RX9 18 9 1 := ⟨_, _, _, rfl, by decide, tb_in9, tbm 207 (by decide +kernel) rfl⟩
set_option maxRecDepth 100000 in
theorem fpX9_18 : FP RX9 18 9 1 true (.object "RainRecorder$Showers") := ⟨_, _, _, tyX9, rfl, by decide, tb_in9, tbm 207 (by decide +kernel) rfl, tyX9_ok, nmX9, rfl, rfl, rfl⟩
set_option maxRecDepth 100000 in
theorem flX6_29 : FL RX6 29 9 1 := ⟨_, _, _, rfl, by decide, tb_in9, tbm 208 (by decide +kernel) rfl⟩
set_option maxRecDepth 100000 in
theorem flX11_55 : FL RX11 55 9 1 := ⟨_, _, _, rfl, by decide, tb_in9, tbm 209 (by decide +kernel) rfl⟩
set_option maxRecDepth 100000 in
theorem flX9_25 : FL RX9 25 9 2 := ⟨_, _, _, rfl, by decide, tb_in9, tbm 210 (by decide +kernel) rfl⟩
set_option maxRecDepth 100000 in
theorem fpX9_25 : FP RX9 25 9 2 true (.object "RainRecorder$Film") := ⟨_, _, _, tyX9, rfl, by decide, tb_in9, tbm 210 (by decide +kernel) rfl, tyX9_ok, nmX9, rfl, rfl, rfl⟩
set_option maxRecDepth 100000 in
theorem flX6_44 : FL RX6 44 9 2 := ⟨_, _, _, rfl, by decide, tb_in9, tbm 211 (by decide +kernel) rfl⟩
set_option maxRecDepth 100000 in
theorem flX11_152 : FL RX11 152 9 2 := ⟨_, _, _, rfl, by decide, tb_in9, tbm 212 (by decide +kernel) rfl⟩
set_option maxRecDepth 100000 in
theorem flX9_32 : FL RX9 32 9 3 := ⟨_, _, _, rfl, by decide, tb_in9, tbm 213 (by decide +kernel) rfl⟩
set_option maxRecDepth 100000 in
theorem fpX9_32 : FP RX9 32 9 3 true (.object "RainRecorder$Bucket") := ⟨_, _, _, tyX9, rfl, by decide, tb_in9, tbm 213 (by decide +kernel) rfl, tyX9_ok, nmX9, rfl, rfl, rfl⟩
set_option maxRecDepth 100000 in
theorem flX6_57 : FL RX6 57 9 3 := ⟨_, _, _, rfl, by decide, tb_in9, tbm 214 (by decide +kernel) rfl⟩
set_option maxRecDepth 100000 in
theorem flX11_161 : FL RX11 161 9 3 := ⟨_, _, _, rfl, by decide, tb_in9, tbm 215 (by decide +kernel) rfl⟩
set_option maxRecDepth 100000 in
theorem flX9_39 : FL RX9 39 9 4 := ⟨_, _, _, rfl, by decide, tb_in9, tbm 216 (by decide +kernel) rfl⟩
set_option maxRecDepth 100000 in
theorem fpX9_39 : FP RX9 39 9 4 true (.object "RainRecorder$Clock") := ⟨_, _, _, tyX9, rfl, by decide, tb_in9, tbm 216 (by decide +kernel) rfl, tyX9_ok, nmX9, rfl, rfl, rfl⟩
set_option maxRecDepth 100000 in
theorem flX11_114 : FL RX11 114 9 4 := ⟨_, _, _, rfl, by decide, tb_in9, tbm 217 (by decide +kernel) rfl⟩
set_option maxRecDepth 100000 in
theorem flX9_46 : FL RX9 46 9 5 := ⟨_, _, _, rfl, by decide, tb_in9, tbm 218 (by decide +kernel) rfl⟩
set_option maxRecDepth 100000 in
theorem fpX9_46 : FP RX9 46 9 5 true (.object "RainRecorder$Gears") := ⟨_, _, _, tyX9, rfl, by decide, tb_in9, tbm 218 (by decide +kernel) rfl, tyX9_ok, nmX9, rfl, rfl, rfl⟩
set_option maxRecDepth 100000 in
theorem flX11_123 : FL RX11 123 9 5 := ⟨_, _, _, rfl, by decide, tb_in9, tbm 219 (by decide +kernel) rfl⟩
set_option maxRecDepth 100000 in
theorem flX9_53 : FL RX9 53 9 6 := ⟨_, _, _, rfl, by decide, tb_in9, tbm 220 (by decide +kernel) rfl⟩
set_option maxRecDepth 100000 in
theorem fpX9_53 : FP RX9 53 9 6 true (.object "RainRecorder$Marks") := ⟨_, _, _, tyX9, rfl, by decide, tb_in9, tbm 220 (by decide +kernel) rfl, tyX9_ok, nmX9, rfl, rfl, rfl⟩
set_option maxRecDepth 100000 in
theorem flX11_142 : FL RX11 142 9 6 := ⟨_, _, _, rfl, by decide, tb_in9, tbm 221 (by decide +kernel) rfl⟩
set_option maxRecDepth 100000 in
theorem flX11_47 : FL RX11 47 9 7 := ⟨_, _, _, rfl, by decide, tb_in9, tbm 222 (by decide +kernel) rfl⟩
set_option maxRecDepth 100000 in
theorem flX6_35 : FL RX6 35 9 7 := ⟨_, _, _, rfl, by decide, tb_in9, tbm 223 (by decide +kernel) rfl⟩
set_option maxRecDepth 100000 in
theorem flX9_83 : FL RX9 83 9 7 := ⟨_, _, _, rfl, by decide, tb_in9, tbm 224 (by decide +kernel) rfl⟩
set_option maxRecDepth 100000 in
theorem fpX9_83 : FP RX9 83 9 7 false (.int) := ⟨_, _, _, tyX9, rfl, by decide, tb_in9, tbm 224 (by decide +kernel) rfl, tyX9_ok, nmX9, rfl, rfl, rfl⟩
set_option maxRecDepth 100000 in
theorem flX9_87 : FL RX9 87 9 8 := ⟨_, _, _, rfl, by decide, tb_in9, tbm 225 (by decide +kernel) rfl⟩
set_option maxRecDepth 100000 in
theorem fpX9_87 : FP RX9 87 9 8 false (.int) := ⟨_, _, _, tyX9, rfl, by decide, tb_in9, tbm 225 (by decide +kernel) rfl, tyX9_ok, nmX9, rfl, rfl, rfl⟩
set_option maxRecDepth 100000 in
theorem flX4_11 : FL RX4 11 4 0 := ⟨_, _, _, rfl, by decide, tb_in4, tbm 254 (by decide +kernel) rfl⟩
set_option maxRecDepth 100000 in
theorem fpX4_11 : FP RX4 11 4 0 true (.array (.object "RainRecorder$State")) := ⟨_, _, _, tyX4, rfl, by decide, tb_in4, tbm 254 (by decide +kernel) rfl, tyX4_ok, nmX4, rfl, rfl, rfl⟩
set_option maxRecDepth 100000 in
theorem flX4_18 : FL RX4 18 4 1 := ⟨_, _, _, rfl, by decide, tb_in4, tbm 255 (by decide +kernel) rfl⟩
set_option maxRecDepth 100000 in
theorem fpX4_18 : FP RX4 18 4 1 false (.int) := ⟨_, _, _, tyX4, rfl, by decide, tb_in4, tbm 255 (by decide +kernel) rfl, tyX4_ok, nmX4, rfl, rfl, rfl⟩
set_option maxRecDepth 100000 in
theorem flX11_101 : FL RX11 101 4 1 := ⟨_, _, _, rfl, by decide, tb_in4, tbm 256 (by decide +kernel) rfl⟩
set_option maxRecDepth 100000 in
theorem flX6_9 : FL RX6 9 6 0 := ⟨_, _, _, rfl, by decide, tb_in6, tbm 268 (by decide +kernel) rfl⟩
set_option maxRecDepth 100000 in
theorem fpX6_9 : FP RX6 9 6 0 true (.array .int) := ⟨_, _, _, tyX6, rfl, by decide, tb_in6, tbm 268 (by decide +kernel) rfl, tyX6_ok, nmX6, rfl, rfl, rfl⟩
set_option maxRecDepth 100000 in
theorem flX6_15 : FL RX6 15 6 1 := ⟨_, _, _, rfl, by decide, tb_in6, tbm 269 (by decide +kernel) rfl⟩
set_option maxRecDepth 100000 in
theorem fpX6_15 : FP RX6 15 6 1 true (.array .boolean) := ⟨_, _, _, tyX6, rfl, by decide, tb_in6, tbm 269 (by decide +kernel) rfl, tyX6_ok, nmX6, rfl, rfl, rfl⟩
set_option maxRecDepth 100000 in
theorem flX6_25 : FL RX6 25 6 2 := ⟨_, _, _, rfl, by decide, tb_in6, tbm 270 (by decide +kernel) rfl⟩
set_option maxRecDepth 100000 in
theorem fpX6_25 : FP RX6 25 6 2 false (.int) := ⟨_, _, _, tyX6, rfl, by decide, tb_in6, tbm 270 (by decide +kernel) rfl, tyX6_ok, nmX6, rfl, rfl, rfl⟩
set_option maxRecDepth 100000 in
theorem flX10_9 : FL RX10 9 10 0 := ⟨_, _, _, rfl, by decide, tb_in10, tbm 285 (by decide +kernel) rfl⟩
set_option maxRecDepth 100000 in
theorem fpX10_9 : FP RX10 9 10 0 true (.array .char) := ⟨_, _, _, tyX10, rfl, by decide, tb_in10, tbm 285 (by decide +kernel) rfl, tyX10_ok, nmX10, rfl, rfl, rfl⟩
set_option maxRecDepth 100000 in
theorem flX10_15 : FL RX10 15 10 1 := ⟨_, _, _, rfl, by decide, tb_in10, tbm 286 (by decide +kernel) rfl⟩
set_option maxRecDepth 100000 in
theorem fpX10_15 : FP RX10 15 10 1 false (.int) := ⟨_, _, _, tyX10, rfl, by decide, tb_in10, tbm 286 (by decide +kernel) rfl, tyX10_ok, nmX10, rfl, rfl, rfl⟩
set_option maxRecDepth 100000 in
theorem flX7_31 : FL RX7 31 10 1 := ⟨_, _, _, rfl, by decide, tb_in10, tbm 287 (by decide +kernel) rfl⟩
set_option maxRecDepth 100000 in
theorem flX11_178 : FL RX11 178 10 1 := ⟨_, _, _, rfl, by decide, tb_in10, tbm 288 (by decide +kernel) rfl⟩
set_option maxRecDepth 100000 in
theorem flX7_9 : FL RX7 9 7 0 := ⟨_, _, _, rfl, by decide, tb_in7, tbm 301 (by decide +kernel) rfl⟩
set_option maxRecDepth 100000 in
theorem fpX7_9 : FP RX7 9 7 0 true (.array .int) := ⟨_, _, _, tyX7, rfl, by decide, tb_in7, tbm 301 (by decide +kernel) rfl, tyX7_ok, nmX7, rfl, rfl, rfl⟩
set_option maxRecDepth 100000 in
theorem flX11_255 : FL RX11 255 7 0 := ⟨_, _, _, rfl, by decide, tb_in7, tbm 302 (by decide +kernel) rfl⟩
set_option maxRecDepth 100000 in
theorem flX7_15 : FL RX7 15 7 1 := ⟨_, _, _, rfl, by decide, tb_in7, tbm 303 (by decide +kernel) rfl⟩
set_option maxRecDepth 100000 in
theorem fpX7_15 : FP RX7 15 7 1 true (.array .int) := ⟨_, _, _, tyX7, rfl, by decide, tb_in7, tbm 303 (by decide +kernel) rfl, tyX7_ok, nmX7, rfl, rfl, rfl⟩
set_option maxRecDepth 100000 in
theorem flX11_256 : FL RX11 256 7 1 := ⟨_, _, _, rfl, by decide, tb_in7, tbm 304 (by decide +kernel) rfl⟩
set_option maxRecDepth 100000 in
theorem flX7_18 : FL RX7 18 7 2 := ⟨_, _, _, rfl, by decide, tb_in7, tbm 305 (by decide +kernel) rfl⟩
set_option maxRecDepth 100000 in
theorem fpX7_18 : FP RX7 18 7 2 true (.array .int) := ⟨_, _, _, tyX7, rfl, by decide, tb_in7, tbm 305 (by decide +kernel) rfl, tyX7_ok, nmX7, rfl, rfl, rfl⟩
set_option maxRecDepth 100000 in
theorem flX11_257 : FL RX11 257 7 2 := ⟨_, _, _, rfl, by decide, tb_in7, tbm 306 (by decide +kernel) rfl⟩
set_option maxRecDepth 100000 in
theorem flX7_21 : FL RX7 21 7 3 := ⟨_, _, _, rfl, by decide, tb_in7, tbm 307 (by decide +kernel) rfl⟩
set_option maxRecDepth 100000 in
theorem fpX7_21 : FP RX7 21 7 3 false (.int) := ⟨_, _, _, tyX7, rfl, by decide, tb_in7, tbm 307 (by decide +kernel) rfl, tyX7_ok, nmX7, rfl, rfl, rfl⟩
set_option maxRecDepth 100000 in
theorem flX11_254 : FL RX11 254 7 3 := ⟨_, _, _, rfl, by decide, tb_in7, tbm 308 (by decide +kernel) rfl⟩
set_option maxRecDepth 100000 in
theorem flX7_36 : FL RX7 36 7 4 := ⟨_, _, _, rfl, by decide, tb_in7, tbm 309 (by decide +kernel) rfl⟩
set_option maxRecDepth 100000 in
theorem fpX7_36 : FP RX7 36 7 4 false (.int) := ⟨_, _, _, tyX7, rfl, by decide, tb_in7, tbm 309 (by decide +kernel) rfl, tyX7_ok, nmX7, rfl, rfl, rfl⟩
set_option maxRecDepth 100000 in
theorem flX11_251 : FL RX11 251 7 4 := ⟨_, _, _, rfl, by decide, tb_in7, tbm 310 (by decide +kernel) rfl⟩
set_option maxRecDepth 100000 in
theorem flX7_28 : FL RX7 28 7 5 := ⟨_, _, _, rfl, by decide, tb_in7, tbm 311 (by decide +kernel) rfl⟩
set_option maxRecDepth 100000 in
theorem fpX7_28 : FP RX7 28 7 5 false (.int) := ⟨_, _, _, tyX7, rfl, by decide, tb_in7, tbm 311 (by decide +kernel) rfl, tyX7_ok, nmX7, rfl, rfl, rfl⟩
set_option maxRecDepth 100000 in
theorem flX11_248 : FL RX11 248 7 5 := ⟨_, _, _, rfl, by decide, tb_in7, tbm 312 (by decide +kernel) rfl⟩
set_option maxRecDepth 100000 in
theorem flX7_25 : FL RX7 25 7 6 := ⟨_, _, _, rfl, by decide, tb_in7, tbm 313 (by decide +kernel) rfl⟩
set_option maxRecDepth 100000 in
theorem fpX7_25 : FP RX7 25 7 6 false (.int) := ⟨_, _, _, tyX7, rfl, by decide, tb_in7, tbm 313 (by decide +kernel) rfl, tyX7_ok, nmX7, rfl, rfl, rfl⟩
set_option maxRecDepth 100000 in
theorem flX11_10 : FL RX11 10 11 0 := ⟨_, _, _, rfl, by decide, tb_in11, tbm 329 (by decide +kernel) rfl⟩
set_option maxRecDepth 100000 in
theorem fpX11_10 : FP RX11 10 11 0 true (.object "RainRecorder$State") := ⟨_, _, _, tyX11, rfl, by decide, tb_in11, tbm 329 (by decide +kernel) rfl, tyX11_ok, nmX11, rfl, rfl, rfl⟩
set_option maxRecDepth 100000 in
theorem flX11_16 : FL RX11 16 11 1 := ⟨_, _, _, rfl, by decide, tb_in11, tbm 330 (by decide +kernel) rfl⟩
set_option maxRecDepth 100000 in
theorem fpX11_16 : FP RX11 16 11 1 true (.object "RainRecorder$State") := ⟨_, _, _, tyX11, rfl, by decide, tb_in11, tbm 330 (by decide +kernel) rfl, tyX11_ok, nmX11, rfl, rfl, rfl⟩
set_option maxRecDepth 100000 in
theorem flX11_22 : FL RX11 22 11 2 := ⟨_, _, _, rfl, by decide, tb_in11, tbm 331 (by decide +kernel) rfl⟩
set_option maxRecDepth 100000 in
theorem fpX11_22 : FP RX11 22 11 2 true (.object "RainRecorder$History") := ⟨_, _, _, tyX11, rfl, by decide, tb_in11, tbm 331 (by decide +kernel) rfl, tyX11_ok, nmX11, rfl, rfl, rfl⟩
set_option maxRecDepth 100000 in
theorem flX11_29 : FL RX11 29 11 3 := ⟨_, _, _, rfl, by decide, tb_in11, tbm 332 (by decide +kernel) rfl⟩
set_option maxRecDepth 100000 in
theorem fpX11_29 : FP RX11 29 11 3 true (.object "RainRecorder$Outlook") := ⟨_, _, _, tyX11, rfl, by decide, tb_in11, tbm 332 (by decide +kernel) rfl, tyX11_ok, nmX11, rfl, rfl, rfl⟩
set_option maxRecDepth 100000 in
theorem flX11_36 : FL RX11 36 11 4 := ⟨_, _, _, rfl, by decide, tb_in11, tbm 333 (by decide +kernel) rfl⟩
set_option maxRecDepth 100000 in
theorem fpX11_36 : FP RX11 36 11 4 true (.object "RainRecorder$Text") := ⟨_, _, _, tyX11, rfl, by decide, tb_in11, tbm 333 (by decide +kernel) rfl, tyX11_ok, nmX11, rfl, rfl, rfl⟩
set_option maxRecDepth 100000 in
theorem flX11_43 : FL RX11 43 11 5 := ⟨_, _, _, rfl, by decide, tb_in11, tbm 334 (by decide +kernel) rfl⟩
set_option maxRecDepth 100000 in
theorem fpX11_43 : FP RX11 43 11 5 true (.object "RainRecorder$Reading") := ⟨_, _, _, tyX11, rfl, by decide, tb_in11, tbm 334 (by decide +kernel) rfl, tyX11_ok, nmX11, rfl, rfl, rfl⟩
set_option maxRecDepth 100000 in
theorem gsX11_105 : Cond.fieldLink RX11 105 RX11 "LEAST_VALUES" "[I" ∈ TB := tbm 498 (by decide +kernel) rfl
set_option maxRecDepth 100000 in
theorem gsX11_108 : Cond.fieldLink RX11 108 RX11 "GREATEST_VALUES" "[I" ∈ TB := tbm 500 (by decide +kernel) rfl
set_option maxRecDepth 100000 in
theorem flX12_7 : FL RX12 7 12 0 := ⟨_, _, _, rfl, by decide, tb_in12, tbm 695 (by decide +kernel) rfl⟩
set_option maxRecDepth 100000 in
theorem fpX12_7 : FP RX12 7 12 0 true (.array .int) := ⟨_, _, _, tyX12, rfl, by decide, tb_in12, tbm 695 (by decide +kernel) rfl, tyX12_ok, nmX12, rfl, rfl, rfl⟩
set_option maxRecDepth 100000 in
theorem flX12_13 : FL RX12 13 12 1 := ⟨_, _, _, rfl, by decide, tb_in12, tbm 696 (by decide +kernel) rfl⟩
set_option maxRecDepth 100000 in
theorem fpX12_13 : FP RX12 13 12 1 true (.array .int) := ⟨_, _, _, tyX12, rfl, by decide, tb_in12, tbm 696 (by decide +kernel) rfl, tyX12_ok, nmX12, rfl, rfl, rfl⟩
set_option maxRecDepth 100000 in
theorem flX12_29 : FL RX12 29 12 2 := ⟨_, _, _, rfl, by decide, tb_in12, tbm 697 (by decide +kernel) rfl⟩
set_option maxRecDepth 100000 in
theorem fpX12_29 : FP RX12 29 12 2 false (.int) := ⟨_, _, _, tyX12, rfl, by decide, tb_in12, tbm 697 (by decide +kernel) rfl, tyX12_ok, nmX12, rfl, rfl, rfl⟩
set_option maxRecDepth 100000 in
theorem flX12_16 : FL RX12 16 12 3 := ⟨_, _, _, rfl, by decide, tb_in12, tbm 698 (by decide +kernel) rfl⟩
set_option maxRecDepth 100000 in
theorem fpX12_16 : FP RX12 16 12 3 true (.array .int) := ⟨_, _, _, tyX12, rfl, by decide, tb_in12, tbm 698 (by decide +kernel) rfl, tyX12_ok, nmX12, rfl, rfl, rfl⟩
set_option maxRecDepth 100000 in
theorem flX12_19 : FL RX12 19 12 4 := ⟨_, _, _, rfl, by decide, tb_in12, tbm 699 (by decide +kernel) rfl⟩
set_option maxRecDepth 100000 in
theorem fpX12_19 : FP RX12 19 12 4 true (.array .char) := ⟨_, _, _, tyX12, rfl, by decide, tb_in12, tbm 699 (by decide +kernel) rfl, tyX12_ok, nmX12, rfl, rfl, rfl⟩
set_option maxRecDepth 100000 in
theorem flX12_91 : FL RX12 91 12 5 := ⟨_, _, _, rfl, by decide, tb_in12, tbm 700 (by decide +kernel) rfl⟩
set_option maxRecDepth 100000 in
theorem fpX12_91 : FP RX12 91 12 5 false (.int) := ⟨_, _, _, tyX12, rfl, by decide, tb_in12, tbm 700 (by decide +kernel) rfl, tyX12_ok, nmX12, rfl, rfl, rfl⟩
set_option maxRecDepth 100000 in
theorem flX12_113 : FL RX12 113 12 6 := ⟨_, _, _, rfl, by decide, tb_in12, tbm 701 (by decide +kernel) rfl⟩
set_option maxRecDepth 100000 in
theorem fpX12_113 : FP RX12 113 12 6 false (.int) := ⟨_, _, _, tyX12, rfl, by decide, tb_in12, tbm 701 (by decide +kernel) rfl, tyX12_ok, nmX12, rfl, rfl, rfl⟩
set_option maxRecDepth 100000 in
theorem flX12_116 : FL RX12 116 12 7 := ⟨_, _, _, rfl, by decide, tb_in12, tbm 702 (by decide +kernel) rfl⟩
set_option maxRecDepth 100000 in
theorem fpX12_116 : FP RX12 116 12 7 false (.int) := ⟨_, _, _, tyX12, rfl, by decide, tb_in12, tbm 702 (by decide +kernel) rfl, tyX12_ok, nmX12, rfl, rfl, rfl⟩
set_option maxRecDepth 100000 in
theorem flX12_23 : FL RX12 23 12 8 := ⟨_, _, _, rfl, by decide, tb_in12, tbm 703 (by decide +kernel) rfl⟩
set_option maxRecDepth 100000 in
theorem fpX12_23 : FP RX12 23 12 8 true (.array .int) := ⟨_, _, _, tyX12, rfl, by decide, tb_in12, tbm 703 (by decide +kernel) rfl, tyX12_ok, nmX12, rfl, rfl, rfl⟩
set_option maxRecDepth 100000 in
theorem flX12_119 : FL RX12 119 12 9 := ⟨_, _, _, rfl, by decide, tb_in12, tbm 704 (by decide +kernel) rfl⟩
set_option maxRecDepth 100000 in
theorem fpX12_119 : FP RX12 119 12 9 false (.int) := ⟨_, _, _, tyX12, rfl, by decide, tb_in12, tbm 704 (by decide +kernel) rfl, tyX12_ok, nmX12, rfl, rfl, rfl⟩
set_option maxRecDepth 100000 in
theorem flX12_26 : FL RX12 26 12 10 := ⟨_, _, _, rfl, by decide, tb_in12, tbm 705 (by decide +kernel) rfl⟩
set_option maxRecDepth 100000 in
theorem fpX12_26 : FP RX12 26 12 10 true (.array .int) := ⟨_, _, _, tyX12, rfl, by decide, tb_in12, tbm 705 (by decide +kernel) rfl, tyX12_ok, nmX12, rfl, rfl, rfl⟩
set_option maxRecDepth 100000 in
theorem flX12_88 : FL RX12 88 12 11 := ⟨_, _, _, rfl, by decide, tb_in12, tbm 706 (by decide +kernel) rfl⟩
set_option maxRecDepth 100000 in
theorem fpX12_88 : FP RX12 88 12 11 false (.int) := ⟨_, _, _, tyX12, rfl, by decide, tb_in12, tbm 706 (by decide +kernel) rfl, tyX12_ok, nmX12, rfl, rfl, rfl⟩
set_option maxRecDepth 100000 in
theorem mlL_9 : MLI RL 9 yX11_init cX11_init 1 0 := ⟨⟨tbm 33 (by decide +kernel) rfl, tbm 52 (by decide +kernel) rfl, ⟨by decide, by decide, by decide +kernel⟩, by decide, Or.inl (tbm 50 (by decide +kernel) rfl)⟩, rfl, tbm 51 (by decide +kernel) rfl⟩
set_option maxRecDepth 100000 in
theorem mlX11_9 : MLI RX11 9 yX9_init cX9_init 1 0 := ⟨⟨tbm 34 (by decide +kernel) rfl, tbm 60 (by decide +kernel) rfl, ⟨by decide, by decide, by decide +kernel⟩, by decide, Or.inl (tbm 58 (by decide +kernel) rfl)⟩, rfl, tbm 59 (by decide +kernel) rfl⟩
set_option maxRecDepth 100000 in
theorem mlX9_17 : MLI RX9 17 yX8_init cX8_init 1 0 := ⟨⟨tbm 35 (by decide +kernel) rfl, tbm 66 (by decide +kernel) rfl, ⟨by decide, by decide, by decide +kernel⟩, by decide, Or.inr ⟨"RainRecorder", tnm 64 (by decide +kernel) rfl⟩⟩, rfl, tbm 65 (by decide +kernel) rfl⟩
set_option maxRecDepth 100000 in
theorem mlX9_24 : MLI RX9 24 yX2_init cX2_init 1 0 := ⟨⟨tbm 36 (by decide +kernel) rfl, tbm 90 (by decide +kernel) rfl, ⟨by decide, by decide, by decide +kernel⟩, by decide, Or.inr ⟨"RainRecorder", tnm 88 (by decide +kernel) rfl⟩⟩, rfl, tbm 89 (by decide +kernel) rfl⟩
set_option maxRecDepth 100000 in
theorem mlX9_31 : MLI RX9 31 yX0_init cX0_init 1 0 := ⟨⟨tbm 37 (by decide +kernel) rfl, tbm 105 (by decide +kernel) rfl, ⟨by decide, by decide, by decide +kernel⟩, by decide, Or.inr ⟨"RainRecorder", tnm 103 (by decide +kernel) rfl⟩⟩, rfl, tbm 104 (by decide +kernel) rfl⟩
set_option maxRecDepth 100000 in
theorem mlX9_38 : MLI RX9 38 yX1_init cX1_init 1 0 := ⟨⟨tbm 38 (by decide +kernel) rfl, tbm 138 (by decide +kernel) rfl, ⟨by decide, by decide, by decide +kernel⟩, by decide, Or.inr ⟨"RainRecorder", tnm 136 (by decide +kernel) rfl⟩⟩, rfl, tbm 137 (by decide +kernel) rfl⟩
set_option maxRecDepth 100000 in
theorem mlX9_45 : MLI RX9 45 yX3_init cX3_init 1 0 := ⟨⟨tbm 39 (by decide +kernel) rfl, tbm 156 (by decide +kernel) rfl, ⟨by decide, by decide, by decide +kernel⟩, by decide, Or.inr ⟨"RainRecorder", tnm 154 (by decide +kernel) rfl⟩⟩, rfl, tbm 155 (by decide +kernel) rfl⟩
set_option maxRecDepth 100000 in
theorem mlX9_52 : MLI RX9 52 yX5_init cX5_init 1 0 := ⟨⟨tbm 40 (by decide +kernel) rfl, tbm 175 (by decide +kernel) rfl, ⟨by decide, by decide, by decide +kernel⟩, by decide, Or.inr ⟨"RainRecorder", tnm 173 (by decide +kernel) rfl⟩⟩, rfl, tbm 174 (by decide +kernel) rfl⟩
set_option maxRecDepth 100000 in
theorem mlX9_60 : MLS RX9 60 yX11_copyRow cX11_copyRow 2 none 2 := ⟨⟨tbm 33 (by decide +kernel) rfl, tbm 197 (by decide +kernel) rfl, ⟨by decide, by decide, by decide +kernel⟩, by decide, Or.inr ⟨"RainRecorder", tnm 195 (by decide +kernel) rfl⟩⟩, tbm 196 (by decide +kernel) rfl⟩
set_option maxRecDepth 100000 in
theorem mlX11_264 : MLS RX11 264 yJ9_min_7cf53 cJ9_min_7cf53 2 (some .int) 2 := ⟨⟨tbm 41 (by decide +kernel) rfl, tbm 200 (by decide +kernel) rfl, ⟨by decide, by decide, by decide +kernel⟩, by decide, Or.inl (tbm 198 (by decide +kernel) rfl)⟩, tbm 199 (by decide +kernel) rfl⟩
set_option maxRecDepth 100000 in
theorem mlX11_21 : MLI RX11 21 yX4_init cX4_init 2 0 := ⟨⟨tbm 43 (by decide +kernel) rfl, tbm 249 (by decide +kernel) rfl, ⟨by decide, by decide, by decide +kernel⟩, by decide, Or.inl (tbm 247 (by decide +kernel) rfl)⟩, rfl, tbm 248 (by decide +kernel) rfl⟩
set_option maxRecDepth 100000 in
theorem mlX4_17 : MLI RX4 17 yX9_init cX9_init 1 0 := ⟨⟨tbm 34 (by decide +kernel) rfl, tbm 60 (by decide +kernel) rfl, ⟨by decide, by decide, by decide +kernel⟩, by decide, Or.inl (tbm 253 (by decide +kernel) rfl)⟩, rfl, tbm 59 (by decide +kernel) rfl⟩
set_option maxRecDepth 100000 in
theorem mlX11_28 : MLI RX11 28 yX6_init cX6_init 1 0 := ⟨⟨tbm 44 (by decide +kernel) rfl, tbm 266 (by decide +kernel) rfl, ⟨by decide, by decide, by decide +kernel⟩, by decide, Or.inr ⟨"RainRecorder", tnm 264 (by decide +kernel) rfl⟩⟩, rfl, tbm 265 (by decide +kernel) rfl⟩
set_option maxRecDepth 100000 in
theorem mlX11_35 : MLI RX11 35 yX10_init cX10_init 1 0 := ⟨⟨tbm 45 (by decide +kernel) rfl, tbm 283 (by decide +kernel) rfl, ⟨by decide, by decide, by decide +kernel⟩, by decide, Or.inr ⟨"RainRecorder", tnm 281 (by decide +kernel) rfl⟩⟩, rfl, tbm 282 (by decide +kernel) rfl⟩
set_option maxRecDepth 100000 in
theorem mlX11_42 : MLI RX11 42 yX7_init cX7_init 1 0 := ⟨⟨tbm 46 (by decide +kernel) rfl, tbm 299 (by decide +kernel) rfl, ⟨by decide, by decide, by decide +kernel⟩, by decide, Or.inr ⟨"RainRecorder", tnm 297 (by decide +kernel) rfl⟩⟩, rfl, tbm 298 (by decide +kernel) rfl⟩
set_option maxRecDepth 100000 in
theorem mlL_13 : MLV RL 13 yX11_addShower cX11_addShower 4 (some .int) 3 := ⟨⟨tbm 33 (by decide +kernel) rfl, tbm 351 (by decide +kernel) rfl, ⟨by decide, by decide, by decide +kernel⟩, by decide, Or.inl (tbm 348 (by decide +kernel) rfl)⟩, tbm 348 (by decide +kernel) rfl, tbm 349 (by decide +kernel) rfl, tbm 350 (by decide +kernel) rfl⟩
set_option maxRecDepth 100000 in
theorem mlX11_51 : MLS RX11 51 yX11_isWithin cX11_isWithin 3 (some .boolean) 3 := ⟨⟨tbm 33 (by decide +kernel) rfl, tbm 354 (by decide +kernel) rfl, ⟨by decide, by decide, by decide +kernel⟩, by decide, Or.inl (tbm 352 (by decide +kernel) rfl)⟩, tbm 353 (by decide +kernel) rfl⟩
set_option maxRecDepth 100000 in
theorem mlX11_64 : MLV RX11 64 yX4_keep cX4_keep 2 none 1 := ⟨⟨tbm 43 (by decide +kernel) rfl, tbm 358 (by decide +kernel) rfl, ⟨by decide, by decide, by decide +kernel⟩, by decide, Or.inl (tbm 355 (by decide +kernel) rfl)⟩, tbm 355 (by decide +kernel) rfl, tbm 356 (by decide +kernel) rfl, tbm 357 (by decide +kernel) rfl⟩
set_option maxRecDepth 100000 in
theorem mlX4_22 : MLV RX4 22 yX4_dropOldest cX4_dropOldest 3 none 0 := ⟨⟨tbm 43 (by decide +kernel) rfl, tbm 362 (by decide +kernel) rfl, ⟨by decide, by decide, by decide +kernel⟩, by decide, Or.inl (tbm 359 (by decide +kernel) rfl)⟩, tbm 359 (by decide +kernel) rfl, tbm 361 (by decide +kernel) rfl, tbm 0 (by decide +kernel) rfl⟩
set_option maxRecDepth 100000 in
theorem mlX4_25 : MLV RX4 25 yX9_copyFrom cX9_copyFrom 2 none 1 := ⟨⟨tbm 34 (by decide +kernel) rfl, tbm 366 (by decide +kernel) rfl, ⟨by decide, by decide, by decide +kernel⟩, by decide, Or.inl (tbm 363 (by decide +kernel) rfl)⟩, tbm 363 (by decide +kernel) rfl, tbm 364 (by decide +kernel) rfl, tbm 365 (by decide +kernel) rfl⟩
set_option maxRecDepth 100000 in
theorem mlX9_64 : MLV RX9 64 yX8_copyFrom cX8_copyFrom 2 none 1 := ⟨⟨tbm 35 (by decide +kernel) rfl, tbm 370 (by decide +kernel) rfl, ⟨by decide, by decide, by decide +kernel⟩, by decide, Or.inl (tbm 367 (by decide +kernel) rfl)⟩, tbm 367 (by decide +kernel) rfl, tbm 368 (by decide +kernel) rfl, tbm 369 (by decide +kernel) rfl⟩
set_option maxRecDepth 100000 in
theorem mlX8_21 : MLS RX8 21 yX11_copyRow cX11_copyRow 2 none 2 := ⟨⟨tbm 33 (by decide +kernel) rfl, tbm 197 (by decide +kernel) rfl, ⟨by decide, by decide, by decide +kernel⟩, by decide, Or.inr ⟨"RainRecorder", tnm 371 (by decide +kernel) rfl⟩⟩, tbm 196 (by decide +kernel) rfl⟩
set_option maxRecDepth 100000 in
theorem mlX9_68 : MLV RX9 68 yX2_copyFrom cX2_copyFrom 2 none 1 := ⟨⟨tbm 36 (by decide +kernel) rfl, tbm 375 (by decide +kernel) rfl, ⟨by decide, by decide, by decide +kernel⟩, by decide, Or.inl (tbm 372 (by decide +kernel) rfl)⟩, tbm 372 (by decide +kernel) rfl, tbm 373 (by decide +kernel) rfl, tbm 374 (by decide +kernel) rfl⟩
set_option maxRecDepth 100000 in
theorem mlX9_71 : MLV RX9 71 yX0_copyFrom cX0_copyFrom 2 none 1 := ⟨⟨tbm 37 (by decide +kernel) rfl, tbm 379 (by decide +kernel) rfl, ⟨by decide, by decide, by decide +kernel⟩, by decide, Or.inl (tbm 376 (by decide +kernel) rfl)⟩, tbm 376 (by decide +kernel) rfl, tbm 377 (by decide +kernel) rfl, tbm 378 (by decide +kernel) rfl⟩
set_option maxRecDepth 100000 in
theorem mlX9_74 : MLV RX9 74 yX1_copyFrom cX1_copyFrom 2 none 1 := ⟨⟨tbm 38 (by decide +kernel) rfl, tbm 383 (by decide +kernel) rfl, ⟨by decide, by decide, by decide +kernel⟩, by decide, Or.inl (tbm 380 (by decide +kernel) rfl)⟩, tbm 380 (by decide +kernel) rfl, tbm 381 (by decide +kernel) rfl, tbm 382 (by decide +kernel) rfl⟩
set_option maxRecDepth 100000 in
theorem mlX9_77 : MLV RX9 77 yX3_copyFrom cX3_copyFrom 2 none 1 := ⟨⟨tbm 39 (by decide +kernel) rfl, tbm 387 (by decide +kernel) rfl, ⟨by decide, by decide, by decide +kernel⟩, by decide, Or.inl (tbm 384 (by decide +kernel) rfl)⟩, tbm 384 (by decide +kernel) rfl, tbm 385 (by decide +kernel) rfl, tbm 386 (by decide +kernel) rfl⟩
set_option maxRecDepth 100000 in
theorem mlX3_18 : MLS RX3 18 yX11_copyRow cX11_copyRow 2 none 2 := ⟨⟨tbm 33 (by decide +kernel) rfl, tbm 197 (by decide +kernel) rfl, ⟨by decide, by decide, by decide +kernel⟩, by decide, Or.inr ⟨"RainRecorder", tnm 388 (by decide +kernel) rfl⟩⟩, tbm 196 (by decide +kernel) rfl⟩
set_option maxRecDepth 100000 in
theorem mlX9_80 : MLV RX9 80 yX5_copyFrom cX5_copyFrom 2 none 1 := ⟨⟨tbm 40 (by decide +kernel) rfl, tbm 392 (by decide +kernel) rfl, ⟨by decide, by decide, by decide +kernel⟩, by decide, Or.inl (tbm 389 (by decide +kernel) rfl)⟩, tbm 389 (by decide +kernel) rfl, tbm 390 (by decide +kernel) rfl, tbm 391 (by decide +kernel) rfl⟩
set_option maxRecDepth 100000 in
theorem mlX5_21 : MLS RX5 21 yX11_copyRow cX11_copyRow 2 none 2 := ⟨⟨tbm 33 (by decide +kernel) rfl, tbm 197 (by decide +kernel) rfl, ⟨by decide, by decide, by decide +kernel⟩, by decide, Or.inr ⟨"RainRecorder", tnm 393 (by decide +kernel) rfl⟩⟩, tbm 196 (by decide +kernel) rfl⟩
set_option maxRecDepth 100000 in
theorem mlX11_68 : MLV RX11 68 yX8_insert cX8_insert 5 (some .int) 3 := ⟨⟨tbm 35 (by decide +kernel) rfl, tbm 397 (by decide +kernel) rfl, ⟨by decide, by decide, by decide +kernel⟩, by decide, Or.inl (tbm 394 (by decide +kernel) rfl)⟩, tbm 394 (by decide +kernel) rfl, tbm 395 (by decide +kernel) rfl, tbm 396 (by decide +kernel) rfl⟩
set_option maxRecDepth 100000 in
theorem mlX8_29 : MLV RX8 29 yX8_move cX8_move 3 none 2 := ⟨⟨tbm 35 (by decide +kernel) rfl, tbm 401 (by decide +kernel) rfl, ⟨by decide, by decide, by decide +kernel⟩, by decide, Or.inl (tbm 398 (by decide +kernel) rfl)⟩, tbm 398 (by decide +kernel) rfl, tbm 400 (by decide +kernel) rfl, tbm 1 (by decide +kernel) rfl⟩
set_option maxRecDepth 100000 in
theorem mlL_18 : MLV RL 18 yX11_cancel cX11_cancel 2 (some .int) 1 := ⟨⟨tbm 33 (by decide +kernel) rfl, tbm 405 (by decide +kernel) rfl, ⟨by decide, by decide, by decide +kernel⟩, by decide, Or.inl (tbm 402 (by decide +kernel) rfl)⟩, tbm 402 (by decide +kernel) rfl, tbm 403 (by decide +kernel) rfl, tbm 404 (by decide +kernel) rfl⟩
set_option maxRecDepth 100000 in
theorem mlX11_72 : MLV RX11 72 yX8_has cX8_has 2 (some .boolean) 1 := ⟨⟨tbm 35 (by decide +kernel) rfl, tbm 409 (by decide +kernel) rfl, ⟨by decide, by decide, by decide +kernel⟩, by decide, Or.inl (tbm 406 (by decide +kernel) rfl)⟩, tbm 406 (by decide +kernel) rfl, tbm 407 (by decide +kernel) rfl, tbm 408 (by decide +kernel) rfl⟩
set_option maxRecDepth 100000 in
theorem mlX11_80 : MLV RX11 80 yX8_removeAt cX8_removeAt 3 none 1 := ⟨⟨tbm 35 (by decide +kernel) rfl, tbm 413 (by decide +kernel) rfl, ⟨by decide, by decide, by decide +kernel⟩, by decide, Or.inl (tbm 410 (by decide +kernel) rfl)⟩, tbm 410 (by decide +kernel) rfl, tbm 411 (by decide +kernel) rfl, tbm 412 (by decide +kernel) rfl⟩
set_option maxRecDepth 100000 in
theorem mlX8_33 : MLV RX8 33 yX8_has cX8_has 2 (some .boolean) 1 := ⟨⟨tbm 35 (by decide +kernel) rfl, tbm 409 (by decide +kernel) rfl, ⟨by decide, by decide, by decide +kernel⟩, by decide, Or.inl (tbm 414 (by decide +kernel) rfl)⟩, tbm 414 (by decide +kernel) rfl, tbm 407 (by decide +kernel) rfl, tbm 408 (by decide +kernel) rfl⟩
set_option maxRecDepth 100000 in
theorem mlL_23 : MLV RL 23 yX11_shower cX11_shower 3 (some .int) 2 := ⟨⟨tbm 33 (by decide +kernel) rfl, tbm 418 (by decide +kernel) rfl, ⟨by decide, by decide, by decide +kernel⟩, by decide, Or.inl (tbm 415 (by decide +kernel) rfl)⟩, tbm 415 (by decide +kernel) rfl, tbm 416 (by decide +kernel) rfl, tbm 417 (by decide +kernel) rfl⟩
set_option maxRecDepth 100000 in
theorem mlX11_90 : MLV RX11 90 yX8_ticksToCome cX8_ticksToCome 3 (some .int) 2 := ⟨⟨tbm 35 (by decide +kernel) rfl, tbm 422 (by decide +kernel) rfl, ⟨by decide, by decide, by decide +kernel⟩, by decide, Or.inl (tbm 419 (by decide +kernel) rfl)⟩, tbm 419 (by decide +kernel) rfl, tbm 420 (by decide +kernel) rfl, tbm 421 (by decide +kernel) rfl⟩
set_option maxRecDepth 100000 in
theorem mlX8_37 : MLS RX8 37 yJ9_max_7cf53 cJ9_max_7cf53 2 (some .int) 2 := ⟨⟨tbm 41 (by decide +kernel) rfl, tbm 425 (by decide +kernel) rfl, ⟨by decide, by decide, by decide +kernel⟩, by decide, Or.inl (tbm 423 (by decide +kernel) rfl)⟩, tbm 424 (by decide +kernel) rfl⟩
set_option maxRecDepth 100000 in
theorem mlL_28 : MLV RL 28 yX11_run cX11_run 3 (some .int) 1 := ⟨⟨tbm 33 (by decide +kernel) rfl, tbm 429 (by decide +kernel) rfl, ⟨by decide, by decide, by decide +kernel⟩, by decide, Or.inl (tbm 426 (by decide +kernel) rfl)⟩, tbm 426 (by decide +kernel) rfl, tbm 427 (by decide +kernel) rfl, tbm 428 (by decide +kernel) rfl⟩
set_option maxRecDepth 100000 in
theorem mlX11_94 : MLV RX11 94 yX11_errorOfTicks cX11_errorOfTicks 2 (some .int) 1 := ⟨⟨tbm 33 (by decide +kernel) rfl, tbm 433 (by decide +kernel) rfl, ⟨by decide, by decide, by decide +kernel⟩, by decide, Or.inl (tbm 430 (by decide +kernel) rfl)⟩, tbm 430 (by decide +kernel) rfl, tbm 432 (by decide +kernel) rfl, tbm 2 (by decide +kernel) rfl⟩
set_option maxRecDepth 100000 in
theorem mlX11_98 : MLV RX11 98 yX9_passTicks cX9_passTicks 4 (some .int) 1 := ⟨⟨tbm 34 (by decide +kernel) rfl, tbm 437 (by decide +kernel) rfl, ⟨by decide, by decide, by decide +kernel⟩, by decide, Or.inl (tbm 434 (by decide +kernel) rfl)⟩, tbm 434 (by decide +kernel) rfl, tbm 435 (by decide +kernel) rfl, tbm 436 (by decide +kernel) rfl⟩
set_option maxRecDepth 100000 in
theorem mlX9_90 : MLV RX9 90 yX9_passTick cX9_passTick 4 (some .boolean) 0 := ⟨⟨tbm 34 (by decide +kernel) rfl, tbm 441 (by decide +kernel) rfl, ⟨by decide, by decide, by decide +kernel⟩, by decide, Or.inl (tbm 438 (by decide +kernel) rfl)⟩, tbm 438 (by decide +kernel) rfl, tbm 440 (by decide +kernel) rfl, tbm 3 (by decide +kernel) rfl⟩
set_option maxRecDepth 100000 in
theorem mlX9_94 : MLV RX9 94 yX8_rainIn cX8_rainIn 4 (some .int) 1 := ⟨⟨tbm 35 (by decide +kernel) rfl, tbm 445 (by decide +kernel) rfl, ⟨by decide, by decide, by decide +kernel⟩, by decide, Or.inl (tbm 442 (by decide +kernel) rfl)⟩, tbm 442 (by decide +kernel) rfl, tbm 443 (by decide +kernel) rfl, tbm 444 (by decide +kernel) rfl⟩
set_option maxRecDepth 100000 in
theorem mlX9_98 : MLV RX9 98 yX2_passTick cX2_passTick 6 (some .int) 3 := ⟨⟨tbm 36 (by decide +kernel) rfl, tbm 449 (by decide +kernel) rfl, ⟨by decide, by decide, by decide +kernel⟩, by decide, Or.inl (tbm 446 (by decide +kernel) rfl)⟩, tbm 446 (by decide +kernel) rfl, tbm 447 (by decide +kernel) rfl, tbm 448 (by decide +kernel) rfl⟩
set_option maxRecDepth 100000 in
theorem mlX2_16 : MLS RX2 16 yJ9_max_7cf53 cJ9_max_7cf53 2 (some .int) 2 := ⟨⟨tbm 41 (by decide +kernel) rfl, tbm 425 (by decide +kernel) rfl, ⟨by decide, by decide, by decide +kernel⟩, by decide, Or.inl (tbm 450 (by decide +kernel) rfl)⟩, tbm 424 (by decide +kernel) rfl⟩
set_option maxRecDepth 100000 in
theorem mlX2_22 : MLS RX2 22 yJ9_min_7cf53 cJ9_min_7cf53 2 (some .int) 2 := ⟨⟨tbm 41 (by decide +kernel) rfl, tbm 200 (by decide +kernel) rfl, ⟨by decide, by decide, by decide +kernel⟩, by decide, Or.inl (tbm 451 (by decide +kernel) rfl)⟩, tbm 199 (by decide +kernel) rfl⟩
set_option maxRecDepth 100000 in
theorem mlX9_101 : MLV RX9 101 yX0_passTick cX0_passTick 7 (some .int) 5 := ⟨⟨tbm 37 (by decide +kernel) rfl, tbm 455 (by decide +kernel) rfl, ⟨by decide, by decide, by decide +kernel⟩, by decide, Or.inl (tbm 452 (by decide +kernel) rfl)⟩, tbm 452 (by decide +kernel) rfl, tbm 453 (by decide +kernel) rfl, tbm 454 (by decide +kernel) rfl⟩
set_option maxRecDepth 100000 in
theorem mlX0_30 : MLS RX0 30 yJ9_min_7cf53 cJ9_min_7cf53 2 (some .int) 2 := ⟨⟨tbm 41 (by decide +kernel) rfl, tbm 200 (by decide +kernel) rfl, ⟨by decide, by decide, by decide +kernel⟩, by decide, Or.inl (tbm 456 (by decide +kernel) rfl)⟩, tbm 199 (by decide +kernel) rfl⟩
set_option maxRecDepth 100000 in
theorem mlX0_36 : MLV RX0 36 yX0_tip cX0_tip 4 (some .int) 2 := ⟨⟨tbm 37 (by decide +kernel) rfl, tbm 460 (by decide +kernel) rfl, ⟨by decide, by decide, by decide +kernel⟩, by decide, Or.inl (tbm 457 (by decide +kernel) rfl)⟩, tbm 457 (by decide +kernel) rfl, tbm 459 (by decide +kernel) rfl, tbm 4 (by decide +kernel) rfl⟩
set_option maxRecDepth 100000 in
theorem mlX9_104 : MLV RX9 104 yX9_drumPlace cX9_drumPlace 1 (some .int) 0 := ⟨⟨tbm 34 (by decide +kernel) rfl, tbm 464 (by decide +kernel) rfl, ⟨by decide, by decide, by decide +kernel⟩, by decide, Or.inl (tbm 461 (by decide +kernel) rfl)⟩, tbm 461 (by decide +kernel) rfl, tbm 462 (by decide +kernel) rfl, tbm 463 (by decide +kernel) rfl⟩
set_option maxRecDepth 100000 in
theorem mlX9_121 : MLV RX9 121 yX3_placeOf cX3_placeOf 8 (some .int) 2 := ⟨⟨tbm 39 (by decide +kernel) rfl, tbm 468 (by decide +kernel) rfl, ⟨by decide, by decide, by decide +kernel⟩, by decide, Or.inl (tbm 465 (by decide +kernel) rfl)⟩, tbm 465 (by decide +kernel) rfl, tbm 466 (by decide +kernel) rfl, tbm 467 (by decide +kernel) rfl⟩
set_option maxRecDepth 100000 in
theorem mlX9_108 : MLV RX9 108 yX5_append cX5_append 4 none 3 := ⟨⟨tbm 40 (by decide +kernel) rfl, tbm 472 (by decide +kernel) rfl, ⟨by decide, by decide, by decide +kernel⟩, by decide, Or.inl (tbm 469 (by decide +kernel) rfl)⟩, tbm 469 (by decide +kernel) rfl, tbm 470 (by decide +kernel) rfl, tbm 471 (by decide +kernel) rfl⟩
set_option maxRecDepth 100000 in
theorem mlX5_29 : MLV RX5 29 yX5_removeOldest cX5_removeOldest 1 none 0 := ⟨⟨tbm 40 (by decide +kernel) rfl, tbm 476 (by decide +kernel) rfl, ⟨by decide, by decide, by decide +kernel⟩, by decide, Or.inl (tbm 473 (by decide +kernel) rfl)⟩, tbm 473 (by decide +kernel) rfl, tbm 475 (by decide +kernel) rfl, tbm 5 (by decide +kernel) rfl⟩
set_option maxRecDepth 100000 in
theorem mlX9_112 : MLV RX9 112 yX1_passTick cX1_passTick 1 none 0 := ⟨⟨tbm 38 (by decide +kernel) rfl, tbm 481 (by decide +kernel) rfl, ⟨by decide, by decide, by decide +kernel⟩, by decide, Or.inl (tbm 478 (by decide +kernel) rfl)⟩, tbm 478 (by decide +kernel) rfl, tbm 479 (by decide +kernel) rfl, tbm 480 (by decide +kernel) rfl⟩
set_option maxRecDepth 100000 in
theorem mlX9_114 : MLV RX9 114 yX8_removeEnded cX8_removeEnded 4 none 1 := ⟨⟨tbm 35 (by decide +kernel) rfl, tbm 485 (by decide +kernel) rfl, ⟨by decide, by decide, by decide +kernel⟩, by decide, Or.inl (tbm 482 (by decide +kernel) rfl)⟩, tbm 482 (by decide +kernel) rfl, tbm 483 (by decide +kernel) rfl, tbm 484 (by decide +kernel) rfl⟩
set_option maxRecDepth 100000 in
theorem mlL_32 : MLV RL 32 yX11_undo cX11_undo 1 (some .int) 0 := ⟨⟨tbm 33 (by decide +kernel) rfl, tbm 489 (by decide +kernel) rfl, ⟨by decide, by decide, by decide +kernel⟩, by decide, Or.inl (tbm 486 (by decide +kernel) rfl)⟩, tbm 486 (by decide +kernel) rfl, tbm 487 (by decide +kernel) rfl, tbm 488 (by decide +kernel) rfl⟩
set_option maxRecDepth 100000 in
theorem mlX11_102 : MLV RX11 102 yX4_restoreInto cX4_restoreInto 2 none 1 := ⟨⟨tbm 43 (by decide +kernel) rfl, tbm 493 (by decide +kernel) rfl, ⟨by decide, by decide, by decide +kernel⟩, by decide, Or.inl (tbm 490 (by decide +kernel) rfl)⟩, tbm 490 (by decide +kernel) rfl, tbm 491 (by decide +kernel) rfl, tbm 492 (by decide +kernel) rfl⟩
set_option maxRecDepth 100000 in
theorem mlL_37 : MLV RL 37 yX11_set cX11_set 4 (some .int) 2 := ⟨⟨tbm 33 (by decide +kernel) rfl, tbm 497 (by decide +kernel) rfl, ⟨by decide, by decide, by decide +kernel⟩, by decide, Or.inl (tbm 494 (by decide +kernel) rfl)⟩, tbm 494 (by decide +kernel) rfl, tbm 495 (by decide +kernel) rfl, tbm 496 (by decide +kernel) rfl⟩
set_option maxRecDepth 100000 in
theorem mlL_41 : MLV RL 41 yX11_wind cX11_wind 2 (some .int) 0 := ⟨⟨tbm 33 (by decide +kernel) rfl, tbm 505 (by decide +kernel) rfl, ⟨by decide, by decide, by decide +kernel⟩, by decide, Or.inl (tbm 502 (by decide +kernel) rfl)⟩, tbm 502 (by decide +kernel) rfl, tbm 503 (by decide +kernel) rfl, tbm 504 (by decide +kernel) rfl⟩
set_option maxRecDepth 100000 in
theorem mlL_45 : MLV RL 45 yX11_addGears cX11_addGears 3 (some .int) 2 := ⟨⟨tbm 33 (by decide +kernel) rfl, tbm 509 (by decide +kernel) rfl, ⟨by decide, by decide, by decide +kernel⟩, by decide, Or.inl (tbm 506 (by decide +kernel) rfl)⟩, tbm 506 (by decide +kernel) rfl, tbm 507 (by decide +kernel) rfl, tbm 508 (by decide +kernel) rfl⟩
set_option maxRecDepth 100000 in
theorem mlX11_130 : MLV RX11 130 yX3_append cX3_append 3 none 2 := ⟨⟨tbm 39 (by decide +kernel) rfl, tbm 513 (by decide +kernel) rfl, ⟨by decide, by decide, by decide +kernel⟩, by decide, Or.inl (tbm 510 (by decide +kernel) rfl)⟩, tbm 510 (by decide +kernel) rfl, tbm 511 (by decide +kernel) rfl, tbm 512 (by decide +kernel) rfl⟩
set_option maxRecDepth 100000 in
theorem mlL_49 : MLV RL 49 yX11_removeGears cX11_removeGears 2 (some .int) 1 := ⟨⟨tbm 33 (by decide +kernel) rfl, tbm 517 (by decide +kernel) rfl, ⟨by decide, by decide, by decide +kernel⟩, by decide, Or.inl (tbm 514 (by decide +kernel) rfl)⟩, tbm 514 (by decide +kernel) rfl, tbm 515 (by decide +kernel) rfl, tbm 516 (by decide +kernel) rfl⟩
set_option maxRecDepth 100000 in
theorem mlX11_134 : MLV RX11 134 yX3_has cX3_has 2 (some .boolean) 1 := ⟨⟨tbm 39 (by decide +kernel) rfl, tbm 521 (by decide +kernel) rfl, ⟨by decide, by decide, by decide +kernel⟩, by decide, Or.inl (tbm 518 (by decide +kernel) rfl)⟩, tbm 518 (by decide +kernel) rfl, tbm 519 (by decide +kernel) rfl, tbm 520 (by decide +kernel) rfl⟩
set_option maxRecDepth 100000 in
theorem mlX11_135 : MLV RX11 135 yX3_removeAt cX3_removeAt 3 none 1 := ⟨⟨tbm 39 (by decide +kernel) rfl, tbm 525 (by decide +kernel) rfl, ⟨by decide, by decide, by decide +kernel⟩, by decide, Or.inl (tbm 522 (by decide +kernel) rfl)⟩, tbm 522 (by decide +kernel) rfl, tbm 523 (by decide +kernel) rfl, tbm 524 (by decide +kernel) rfl⟩
set_option maxRecDepth 100000 in
theorem mlX3_26 : MLV RX3 26 yX3_has cX3_has 2 (some .boolean) 1 := ⟨⟨tbm 39 (by decide +kernel) rfl, tbm 521 (by decide +kernel) rfl, ⟨by decide, by decide, by decide +kernel⟩, by decide, Or.inl (tbm 526 (by decide +kernel) rfl)⟩, tbm 526 (by decide +kernel) rfl, tbm 519 (by decide +kernel) rfl, tbm 520 (by decide +kernel) rfl⟩
set_option maxRecDepth 100000 in
theorem mlL_53 : MLV RL 53 yX11_gear cX11_gear 3 (some .int) 2 := ⟨⟨tbm 33 (by decide +kernel) rfl, tbm 530 (by decide +kernel) rfl, ⟨by decide, by decide, by decide +kernel⟩, by decide, Or.inl (tbm 527 (by decide +kernel) rfl)⟩, tbm 527 (by decide +kernel) rfl, tbm 528 (by decide +kernel) rfl, tbm 529 (by decide +kernel) rfl⟩
set_option maxRecDepth 100000 in
theorem mlL_57 : MLV RL 57 yX11_count cX11_count 2 (some .int) 1 := ⟨⟨tbm 33 (by decide +kernel) rfl, tbm 534 (by decide +kernel) rfl, ⟨by decide, by decide, by decide +kernel⟩, by decide, Or.inl (tbm 531 (by decide +kernel) rfl)⟩, tbm 531 (by decide +kernel) rfl, tbm 532 (by decide +kernel) rfl, tbm 533 (by decide +kernel) rfl⟩
set_option maxRecDepth 100000 in
theorem mlX11_149 : MLV RX11 149 yX5_countStorms cX5_countStorms 4 (some .int) 1 := ⟨⟨tbm 40 (by decide +kernel) rfl, tbm 538 (by decide +kernel) rfl, ⟨by decide, by decide, by decide +kernel⟩, by decide, Or.inl (tbm 535 (by decide +kernel) rfl)⟩, tbm 535 (by decide +kernel) rfl, tbm 536 (by decide +kernel) rfl, tbm 537 (by decide +kernel) rfl⟩
set_option maxRecDepth 100000 in
theorem mlX5_51 : MLV RX5 51 yX5_beginsStorm cX5_beginsStorm 3 (some .boolean) 2 := ⟨⟨tbm 40 (by decide +kernel) rfl, tbm 542 (by decide +kernel) rfl, ⟨by decide, by decide, by decide +kernel⟩, by decide, Or.inl (tbm 539 (by decide +kernel) rfl)⟩, tbm 539 (by decide +kernel) rfl, tbm 541 (by decide +kernel) rfl, tbm 6 (by decide +kernel) rfl⟩
set_option maxRecDepth 100000 in
theorem mlX5_42 : MLV RX5 42 yX5_ticksBetween cX5_ticksBetween 3 (some .int) 2 := ⟨⟨tbm 40 (by decide +kernel) rfl, tbm 546 (by decide +kernel) rfl, ⟨by decide, by decide, by decide +kernel⟩, by decide, Or.inl (tbm 543 (by decide +kernel) rfl)⟩, tbm 543 (by decide +kernel) rfl, tbm 544 (by decide +kernel) rfl, tbm 545 (by decide +kernel) rfl⟩
set_option maxRecDepth 100000 in
theorem mlX5_38 : MLV RX5 38 yX5_has cX5_has 2 (some .boolean) 1 := ⟨⟨tbm 40 (by decide +kernel) rfl, tbm 550 (by decide +kernel) rfl, ⟨by decide, by decide, by decide +kernel⟩, by decide, Or.inl (tbm 547 (by decide +kernel) rfl)⟩, tbm 547 (by decide +kernel) rfl, tbm 548 (by decide +kernel) rfl, tbm 549 (by decide +kernel) rfl⟩
set_option maxRecDepth 100000 in
theorem mlX11_174 : MLV RX11 174 yX9_drumPlace cX9_drumPlace 1 (some .int) 0 := ⟨⟨tbm 34 (by decide +kernel) rfl, tbm 464 (by decide +kernel) rfl, ⟨by decide, by decide, by decide +kernel⟩, by decide, Or.inl (tbm 551 (by decide +kernel) rfl)⟩, tbm 551 (by decide +kernel) rfl, tbm 462 (by decide +kernel) rfl, tbm 463 (by decide +kernel) rfl⟩
set_option maxRecDepth 100000 in
theorem mlX11_181 : MLV RX11 181 yX8_rainIn cX8_rainIn 4 (some .int) 1 := ⟨⟨tbm 35 (by decide +kernel) rfl, tbm 445 (by decide +kernel) rfl, ⟨by decide, by decide, by decide +kernel⟩, by decide, Or.inl (tbm 552 (by decide +kernel) rfl)⟩, tbm 552 (by decide +kernel) rfl, tbm 443 (by decide +kernel) rfl, tbm 444 (by decide +kernel) rfl⟩
set_option maxRecDepth 100000 in
theorem mlL_61 : MLV RL 61 yX11_account cX11_account 2 (some .int) 1 := ⟨⟨tbm 33 (by decide +kernel) rfl, tbm 556 (by decide +kernel) rfl, ⟨by decide, by decide, by decide +kernel⟩, by decide, Or.inl (tbm 553 (by decide +kernel) rfl)⟩, tbm 553 (by decide +kernel) rfl, tbm 554 (by decide +kernel) rfl, tbm 555 (by decide +kernel) rfl⟩
set_option maxRecDepth 100000 in
theorem mlX11_184 : MLV RX11 184 yX9_accountOf cX9_accountOf 2 (some .int) 1 := ⟨⟨tbm 34 (by decide +kernel) rfl, tbm 560 (by decide +kernel) rfl, ⟨by decide, by decide, by decide +kernel⟩, by decide, Or.inl (tbm 557 (by decide +kernel) rfl)⟩, tbm 557 (by decide +kernel) rfl, tbm 558 (by decide +kernel) rfl, tbm 559 (by decide +kernel) rfl⟩
set_option maxRecDepth 100000 in
theorem mlL_65 : MLV RL 65 yX11_mark cX11_mark 3 (some .int) 2 := ⟨⟨tbm 33 (by decide +kernel) rfl, tbm 564 (by decide +kernel) rfl, ⟨by decide, by decide, by decide +kernel⟩, by decide, Or.inl (tbm 561 (by decide +kernel) rfl)⟩, tbm 561 (by decide +kernel) rfl, tbm 562 (by decide +kernel) rfl, tbm 563 (by decide +kernel) rfl⟩
set_option maxRecDepth 100000 in
theorem mlX11_187 : MLV RX11 187 yX5_has cX5_has 2 (some .boolean) 1 := ⟨⟨tbm 40 (by decide +kernel) rfl, tbm 550 (by decide +kernel) rfl, ⟨by decide, by decide, by decide +kernel⟩, by decide, Or.inl (tbm 565 (by decide +kernel) rfl)⟩, tbm 565 (by decide +kernel) rfl, tbm 548 (by decide +kernel) rfl, tbm 549 (by decide +kernel) rfl⟩
set_option maxRecDepth 100000 in
theorem mlL_69 : MLV RL 69 yX11_storm cX11_storm 6 (some .int) 2 := ⟨⟨tbm 33 (by decide +kernel) rfl, tbm 569 (by decide +kernel) rfl, ⟨by decide, by decide, by decide +kernel⟩, by decide, Or.inl (tbm 566 (by decide +kernel) rfl)⟩, tbm 566 (by decide +kernel) rfl, tbm 567 (by decide +kernel) rfl, tbm 568 (by decide +kernel) rfl⟩
set_option maxRecDepth 100000 in
theorem mlX11_197 : MLV RX11 197 yX5_firstOfStorm cX5_firstOfStorm 5 (some .int) 2 := ⟨⟨tbm 40 (by decide +kernel) rfl, tbm 573 (by decide +kernel) rfl, ⟨by decide, by decide, by decide +kernel⟩, by decide, Or.inl (tbm 570 (by decide +kernel) rfl)⟩, tbm 570 (by decide +kernel) rfl, tbm 571 (by decide +kernel) rfl, tbm 572 (by decide +kernel) rfl⟩
set_option maxRecDepth 100000 in
theorem mlX11_200 : MLV RX11 200 yX5_endOfStorm cX5_endOfStorm 4 (some .int) 2 := ⟨⟨tbm 40 (by decide +kernel) rfl, tbm 577 (by decide +kernel) rfl, ⟨by decide, by decide, by decide +kernel⟩, by decide, Or.inl (tbm 574 (by decide +kernel) rfl)⟩, tbm 574 (by decide +kernel) rfl, tbm 575 (by decide +kernel) rfl, tbm 576 (by decide +kernel) rfl⟩
set_option maxRecDepth 100000 in
theorem mlX11_203 : MLV RX11 203 yX5_ticksBetween cX5_ticksBetween 3 (some .int) 2 := ⟨⟨tbm 40 (by decide +kernel) rfl, tbm 546 (by decide +kernel) rfl, ⟨by decide, by decide, by decide +kernel⟩, by decide, Or.inl (tbm 578 (by decide +kernel) rfl)⟩, tbm 578 (by decide +kernel) rfl, tbm 544 (by decide +kernel) rfl, tbm 545 (by decide +kernel) rfl⟩
set_option maxRecDepth 100000 in
theorem mlX11_206 : MLV RX11 206 yX11_amountOf cX11_amountOf 3 (some .int) 2 := ⟨⟨tbm 33 (by decide +kernel) rfl, tbm 582 (by decide +kernel) rfl, ⟨by decide, by decide, by decide +kernel⟩, by decide, Or.inl (tbm 579 (by decide +kernel) rfl)⟩, tbm 579 (by decide +kernel) rfl, tbm 581 (by decide +kernel) rfl, tbm 7 (by decide +kernel) rfl⟩
set_option maxRecDepth 100000 in
theorem mlX11_209 : MLV RX11 209 yX11_lossOf cX11_lossOf 3 (some .int) 2 := ⟨⟨tbm 33 (by decide +kernel) rfl, tbm 586 (by decide +kernel) rfl, ⟨by decide, by decide, by decide +kernel⟩, by decide, Or.inl (tbm 583 (by decide +kernel) rfl)⟩, tbm 583 (by decide +kernel) rfl, tbm 585 (by decide +kernel) rfl, tbm 8 (by decide +kernel) rfl⟩
set_option maxRecDepth 100000 in
theorem mlX11_258 : MLV RX11 258 yX5_lossBetweenTips cX5_lossBetweenTips 6 (some .int) 3 := ⟨⟨tbm 40 (by decide +kernel) rfl, tbm 590 (by decide +kernel) rfl, ⟨by decide, by decide, by decide +kernel⟩, by decide, Or.inl (tbm 587 (by decide +kernel) rfl)⟩, tbm 587 (by decide +kernel) rfl, tbm 588 (by decide +kernel) rfl, tbm 589 (by decide +kernel) rfl⟩
set_option maxRecDepth 100000 in
theorem mlX5_55 : MLS RX5 55 yX11_quotient cX11_quotient 2 (some .int) 2 := ⟨⟨tbm 33 (by decide +kernel) rfl, tbm 593 (by decide +kernel) rfl, ⟨by decide, by decide, by decide +kernel⟩, by decide, Or.inr ⟨"RainRecorder", tnm 591 (by decide +kernel) rfl⟩⟩, tbm 592 (by decide +kernel) rfl⟩
set_option maxRecDepth 100000 in
theorem mlX11_261 : MLS RX11 261 yJ9_floorDiv_7cf53 cJ9_floorDiv_7cf53 3 (some .int) 2 := ⟨⟨tbm 41 (by decide +kernel) rfl, tbm 596 (by decide +kernel) rfl, ⟨by decide, by decide, by decide +kernel⟩, by decide, Or.inl (tbm 594 (by decide +kernel) rfl)⟩, tbm 595 (by decide +kernel) rfl⟩
set_option maxRecDepth 100000 in
theorem mlX11_212 : MLV RX11 212 yX5_peak cX5_peak 6 (some .int) 2 := ⟨⟨tbm 40 (by decide +kernel) rfl, tbm 600 (by decide +kernel) rfl, ⟨by decide, by decide, by decide +kernel⟩, by decide, Or.inl (tbm 597 (by decide +kernel) rfl)⟩, tbm 597 (by decide +kernel) rfl, tbm 598 (by decide +kernel) rfl, tbm 599 (by decide +kernel) rfl⟩
set_option maxRecDepth 100000 in
theorem mlX5_46 : MLS RX5 46 yJ9_max_7cf53 cJ9_max_7cf53 2 (some .int) 2 := ⟨⟨tbm 41 (by decide +kernel) rfl, tbm 425 (by decide +kernel) rfl, ⟨by decide, by decide, by decide +kernel⟩, by decide, Or.inl (tbm 601 (by decide +kernel) rfl)⟩, tbm 424 (by decide +kernel) rfl⟩
set_option maxRecDepth 100000 in
theorem mlL_73 : MLV RL 73 yX11_greatestStorm cX11_greatestStorm 9 (some .int) 0 := ⟨⟨tbm 33 (by decide +kernel) rfl, tbm 605 (by decide +kernel) rfl, ⟨by decide, by decide, by decide +kernel⟩, by decide, Or.inl (tbm 602 (by decide +kernel) rfl)⟩, tbm 602 (by decide +kernel) rfl, tbm 603 (by decide +kernel) rfl, tbm 604 (by decide +kernel) rfl⟩
set_option maxRecDepth 100000 in
theorem mlL_77 : MLV RL 77 yX11_gapForOne cX11_gapForOne 2 (some .int) 0 := ⟨⟨tbm 33 (by decide +kernel) rfl, tbm 609 (by decide +kernel) rfl, ⟨by decide, by decide, by decide +kernel⟩, by decide, Or.inl (tbm 606 (by decide +kernel) rfl)⟩, tbm 606 (by decide +kernel) rfl, tbm 607 (by decide +kernel) rfl, tbm 608 (by decide +kernel) rfl⟩
set_option maxRecDepth 100000 in
theorem mlX11_215 : MLV RX11 215 yX5_widestGap cX5_widestGap 3 (some .int) 0 := ⟨⟨tbm 40 (by decide +kernel) rfl, tbm 613 (by decide +kernel) rfl, ⟨by decide, by decide, by decide +kernel⟩, by decide, Or.inl (tbm 610 (by decide +kernel) rfl)⟩, tbm 610 (by decide +kernel) rfl, tbm 611 (by decide +kernel) rfl, tbm 612 (by decide +kernel) rfl⟩
set_option maxRecDepth 100000 in
theorem mlX11_218 : MLS RX11 218 yJ9_max_7cf53 cJ9_max_7cf53 2 (some .int) 2 := ⟨⟨tbm 41 (by decide +kernel) rfl, tbm 425 (by decide +kernel) rfl, ⟨by decide, by decide, by decide +kernel⟩, by decide, Or.inl (tbm 614 (by decide +kernel) rfl)⟩, tbm 424 (by decide +kernel) rfl⟩
set_option maxRecDepth 100000 in
theorem mlL_81 : MLV RL 81 yX11_ifRun cX11_ifRun 5 (some .int) 2 := ⟨⟨tbm 33 (by decide +kernel) rfl, tbm 618 (by decide +kernel) rfl, ⟨by decide, by decide, by decide +kernel⟩, by decide, Or.inl (tbm 615 (by decide +kernel) rfl)⟩, tbm 615 (by decide +kernel) rfl, tbm 616 (by decide +kernel) rfl, tbm 617 (by decide +kernel) rfl⟩
set_option maxRecDepth 100000 in
theorem mlX11_223 : MLV RX11 223 yX9_copyFrom cX9_copyFrom 2 none 1 := ⟨⟨tbm 34 (by decide +kernel) rfl, tbm 366 (by decide +kernel) rfl, ⟨by decide, by decide, by decide +kernel⟩, by decide, Or.inl (tbm 619 (by decide +kernel) rfl)⟩, tbm 619 (by decide +kernel) rfl, tbm 364 (by decide +kernel) rfl, tbm 365 (by decide +kernel) rfl⟩
set_option maxRecDepth 100000 in
theorem mlL_85 : MLV RL 85 yX11_capacityFor cX11_capacityFor 5 (some .int) 2 := ⟨⟨tbm 33 (by decide +kernel) rfl, tbm 623 (by decide +kernel) rfl, ⟨by decide, by decide, by decide +kernel⟩, by decide, Or.inl (tbm 620 (by decide +kernel) rfl)⟩, tbm 620 (by decide +kernel) rfl, tbm 621 (by decide +kernel) rfl, tbm 622 (by decide +kernel) rfl⟩
set_option maxRecDepth 100000 in
theorem mlX11_227 : MLV RX11 227 yX6_lookAhead cX6_lookAhead 5 none 2 := ⟨⟨tbm 44 (by decide +kernel) rfl, tbm 628 (by decide +kernel) rfl, ⟨by decide, by decide, by decide +kernel⟩, by decide, Or.inl (tbm 625 (by decide +kernel) rfl)⟩, tbm 625 (by decide +kernel) rfl, tbm 626 (by decide +kernel) rfl, tbm 627 (by decide +kernel) rfl⟩
set_option maxRecDepth 100000 in
theorem mlX6_19 : MLS RX6 19 yJ9_min_7cf53 cJ9_min_7cf53 2 (some .int) 2 := ⟨⟨tbm 41 (by decide +kernel) rfl, tbm 200 (by decide +kernel) rfl, ⟨by decide, by decide, by decide +kernel⟩, by decide, Or.inl (tbm 629 (by decide +kernel) rfl)⟩, tbm 199 (by decide +kernel) rfl⟩
set_option maxRecDepth 100000 in
theorem mlX6_38 : MLV RX6 38 yX8_rainIn cX8_rainIn 4 (some .int) 1 := ⟨⟨tbm 35 (by decide +kernel) rfl, tbm 445 (by decide +kernel) rfl, ⟨by decide, by decide, by decide +kernel⟩, by decide, Or.inl (tbm 630 (by decide +kernel) rfl)⟩, tbm 630 (by decide +kernel) rfl, tbm 443 (by decide +kernel) rfl, tbm 444 (by decide +kernel) rfl⟩
set_option maxRecDepth 100000 in
theorem mlX6_51 : MLV RX6 51 yX2_passTick cX2_passTick 6 (some .int) 3 := ⟨⟨tbm 36 (by decide +kernel) rfl, tbm 449 (by decide +kernel) rfl, ⟨by decide, by decide, by decide +kernel⟩, by decide, Or.inl (tbm 631 (by decide +kernel) rfl)⟩, tbm 631 (by decide +kernel) rfl, tbm 447 (by decide +kernel) rfl, tbm 448 (by decide +kernel) rfl⟩
set_option maxRecDepth 100000 in
theorem mlX11_231 : MLV RX11 231 yX0_copyFrom cX0_copyFrom 2 none 1 := ⟨⟨tbm 37 (by decide +kernel) rfl, tbm 379 (by decide +kernel) rfl, ⟨by decide, by decide, by decide +kernel⟩, by decide, Or.inl (tbm 632 (by decide +kernel) rfl)⟩, tbm 632 (by decide +kernel) rfl, tbm 377 (by decide +kernel) rfl, tbm 378 (by decide +kernel) rfl⟩
set_option maxRecDepth 100000 in
theorem mlX11_234 : MLV RX11 234 yX6_losesAtMost cX6_losesAtMost 9 (some .boolean) 3 := ⟨⟨tbm 44 (by decide +kernel) rfl, tbm 636 (by decide +kernel) rfl, ⟨by decide, by decide, by decide +kernel⟩, by decide, Or.inl (tbm 633 (by decide +kernel) rfl)⟩, tbm 633 (by decide +kernel) rfl, tbm 634 (by decide +kernel) rfl, tbm 635 (by decide +kernel) rfl⟩
set_option maxRecDepth 100000 in
theorem mlX6_69 : MLV RX6 69 yX0_passTick cX0_passTick 7 (some .int) 5 := ⟨⟨tbm 37 (by decide +kernel) rfl, tbm 455 (by decide +kernel) rfl, ⟨by decide, by decide, by decide +kernel⟩, by decide, Or.inl (tbm 637 (by decide +kernel) rfl)⟩, tbm 637 (by decide +kernel) rfl, tbm 453 (by decide +kernel) rfl, tbm 454 (by decide +kernel) rfl⟩
set_option maxRecDepth 100000 in
theorem mlL_89 : MLV RL 89 yX11_untilStop cX11_untilStop 1 (some .int) 0 := ⟨⟨tbm 33 (by decide +kernel) rfl, tbm 641 (by decide +kernel) rfl, ⟨by decide, by decide, by decide +kernel⟩, by decide, Or.inl (tbm 638 (by decide +kernel) rfl)⟩, tbm 638 (by decide +kernel) rfl, tbm 639 (by decide +kernel) rfl, tbm 640 (by decide +kernel) rfl⟩
set_option maxRecDepth 100000 in
theorem mlL_93 : MLV RL 93 yX11_gearsFor cX11_gearsFor 5 (some .int) 1 := ⟨⟨tbm 33 (by decide +kernel) rfl, tbm 645 (by decide +kernel) rfl, ⟨by decide, by decide, by decide +kernel⟩, by decide, Or.inl (tbm 642 (by decide +kernel) rfl)⟩, tbm 642 (by decide +kernel) rfl, tbm 643 (by decide +kernel) rfl, tbm 644 (by decide +kernel) rfl⟩
set_option maxRecDepth 100000 in
theorem mlX11_238 : MLS RX11 238 yX11_quotient cX11_quotient 2 (some .int) 2 := ⟨⟨tbm 33 (by decide +kernel) rfl, tbm 593 (by decide +kernel) rfl, ⟨by decide, by decide, by decide +kernel⟩, by decide, Or.inl (tbm 646 (by decide +kernel) rfl)⟩, tbm 592 (by decide +kernel) rfl⟩
set_option maxRecDepth 100000 in
theorem mlL_97 : MLV RL 97 yX11_type cX11_type 2 (some .int) 1 := ⟨⟨tbm 33 (by decide +kernel) rfl, tbm 650 (by decide +kernel) rfl, ⟨by decide, by decide, by decide +kernel⟩, by decide, Or.inl (tbm 647 (by decide +kernel) rfl)⟩, tbm 647 (by decide +kernel) rfl, tbm 648 (by decide +kernel) rfl, tbm 649 (by decide +kernel) rfl⟩
set_option maxRecDepth 100000 in
theorem mlX11_241 : MLV RX11 241 yX10_append cX10_append 2 none 1 := ⟨⟨tbm 45 (by decide +kernel) rfl, tbm 654 (by decide +kernel) rfl, ⟨by decide, by decide, by decide +kernel⟩, by decide, Or.inl (tbm 651 (by decide +kernel) rfl)⟩, tbm 651 (by decide +kernel) rfl, tbm 652 (by decide +kernel) rfl, tbm 653 (by decide +kernel) rfl⟩
set_option maxRecDepth 100000 in
theorem mlL_101 : MLV RL 101 yX11_clearText cX11_clearText 2 (some .int) 0 := ⟨⟨tbm 33 (by decide +kernel) rfl, tbm 658 (by decide +kernel) rfl, ⟨by decide, by decide, by decide +kernel⟩, by decide, Or.inl (tbm 655 (by decide +kernel) rfl)⟩, tbm 655 (by decide +kernel) rfl, tbm 656 (by decide +kernel) rfl, tbm 657 (by decide +kernel) rfl⟩
set_option maxRecDepth 100000 in
theorem mlL_105 : MLV RL 105 yX11_fault cX11_fault 2 (some .int) 1 := ⟨⟨tbm 33 (by decide +kernel) rfl, tbm 662 (by decide +kernel) rfl, ⟨by decide, by decide, by decide +kernel⟩, by decide, Or.inl (tbm 659 (by decide +kernel) rfl)⟩, tbm 659 (by decide +kernel) rfl, tbm 660 (by decide +kernel) rfl, tbm 661 (by decide +kernel) rfl⟩
set_option maxRecDepth 100000 in
theorem mlX11_244 : MLV RX11 244 yX7_read cX7_read 5 none 3 := ⟨⟨tbm 46 (by decide +kernel) rfl, tbm 666 (by decide +kernel) rfl, ⟨by decide, by decide, by decide +kernel⟩, by decide, Or.inl (tbm 663 (by decide +kernel) rfl)⟩, tbm 663 (by decide +kernel) rfl, tbm 664 (by decide +kernel) rfl, tbm 665 (by decide +kernel) rfl⟩
set_option maxRecDepth 100000 in
theorem mlX7_39 : MLV RX7 39 yX7_readShower cX7_readShower 7 none 3 := ⟨⟨tbm 46 (by decide +kernel) rfl, tbm 670 (by decide +kernel) rfl, ⟨by decide, by decide, by decide +kernel⟩, by decide, Or.inl (tbm 667 (by decide +kernel) rfl)⟩, tbm 667 (by decide +kernel) rfl, tbm 669 (by decide +kernel) rfl, tbm 9 (by decide +kernel) rfl⟩
set_option maxRecDepth 100000 in
theorem mlX7_43 : MLV RX7 43 yX7_readNumber cX7_readNumber 5 (some .int) 2 := ⟨⟨tbm 46 (by decide +kernel) rfl, tbm 674 (by decide +kernel) rfl, ⟨by decide, by decide, by decide +kernel⟩, by decide, Or.inl (tbm 671 (by decide +kernel) rfl)⟩, tbm 671 (by decide +kernel) rfl, tbm 673 (by decide +kernel) rfl, tbm 10 (by decide +kernel) rfl⟩
set_option maxRecDepth 100000 in
theorem mlX7_51 : MLV RX7 51 yX10_hasDigitAt cX10_hasDigitAt 3 (some .boolean) 1 := ⟨⟨tbm 45 (by decide +kernel) rfl, tbm 678 (by decide +kernel) rfl, ⟨by decide, by decide, by decide +kernel⟩, by decide, Or.inl (tbm 675 (by decide +kernel) rfl)⟩, tbm 675 (by decide +kernel) rfl, tbm 676 (by decide +kernel) rfl, tbm 677 (by decide +kernel) rfl⟩
set_option maxRecDepth 100000 in
theorem mlX10_19 : MLV RX10 19 yX10_characterAt cX10_characterAt 2 (some .char) 1 := ⟨⟨tbm 45 (by decide +kernel) rfl, tbm 682 (by decide +kernel) rfl, ⟨by decide, by decide, by decide +kernel⟩, by decide, Or.inl (tbm 679 (by decide +kernel) rfl)⟩, tbm 679 (by decide +kernel) rfl, tbm 680 (by decide +kernel) rfl, tbm 681 (by decide +kernel) rfl⟩
set_option maxRecDepth 100000 in
theorem mlX7_55 : MLV RX7 55 yX10_characterAt cX10_characterAt 2 (some .char) 1 := ⟨⟨tbm 45 (by decide +kernel) rfl, tbm 682 (by decide +kernel) rfl, ⟨by decide, by decide, by decide +kernel⟩, by decide, Or.inl (tbm 683 (by decide +kernel) rfl)⟩, tbm 683 (by decide +kernel) rfl, tbm 680 (by decide +kernel) rfl, tbm 681 (by decide +kernel) rfl⟩
set_option maxRecDepth 100000 in
theorem mlX7_47 : MLS RX7 47 yX11_isWithin cX11_isWithin 3 (some .boolean) 3 := ⟨⟨tbm 33 (by decide +kernel) rfl, tbm 354 (by decide +kernel) rfl, ⟨by decide, by decide, by decide +kernel⟩, by decide, Or.inr ⟨"RainRecorder", tnm 684 (by decide +kernel) rfl⟩⟩, tbm 353 (by decide +kernel) rfl⟩
set_option maxRecDepth 100000 in
theorem mlL_109 : MLV RL 109 yX11_lay cX11_lay 2 (some .int) 0 := ⟨⟨tbm 33 (by decide +kernel) rfl, tbm 688 (by decide +kernel) rfl, ⟨by decide, by decide, by decide +kernel⟩, by decide, Or.inl (tbm 685 (by decide +kernel) rfl)⟩, tbm 685 (by decide +kernel) rfl, tbm 686 (by decide +kernel) rfl, tbm 687 (by decide +kernel) rfl⟩
set_option maxRecDepth 100000 in
theorem mlL_12 : MLI RL 12 yX12_init cX12_init 1 0 := ⟨⟨tbm 47 (by decide +kernel) rfl, tbm 693 (by decide +kernel) rfl, ⟨by decide, by decide, by decide +kernel⟩, by decide, Or.inl (tbm 691 (by decide +kernel) rfl)⟩, rfl, tbm 692 (by decide +kernel) rfl⟩
set_option maxRecDepth 100000 in
theorem mlL_17 : MLV RL 17 yX12_addShower cX12_addShower 4 (some .int) 3 := ⟨⟨tbm 47 (by decide +kernel) rfl, tbm 735 (by decide +kernel) rfl, ⟨by decide, by decide, by decide +kernel⟩, by decide, Or.inl (tbm 732 (by decide +kernel) rfl)⟩, tbm 732 (by decide +kernel) rfl, tbm 733 (by decide +kernel) rfl, tbm 734 (by decide +kernel) rfl⟩
set_option maxRecDepth 100000 in
theorem mlX12_33 : MLS RX12 33 yX12_in cX12_in 3 (some .boolean) 3 := ⟨⟨tbm 47 (by decide +kernel) rfl, tbm 738 (by decide +kernel) rfl, ⟨by decide, by decide, by decide +kernel⟩, by decide, Or.inl (tbm 736 (by decide +kernel) rfl)⟩, tbm 737 (by decide +kernel) rfl⟩
set_option maxRecDepth 100000 in
theorem mlX12_63 : MLV RX12 63 yX12_records cX12_records 2 none 0 := ⟨⟨tbm 47 (by decide +kernel) rfl, tbm 742 (by decide +kernel) rfl, ⟨by decide, by decide, by decide +kernel⟩, by decide, Or.inl (tbm 739 (by decide +kernel) rfl)⟩, tbm 739 (by decide +kernel) rfl, tbm 741 (by decide +kernel) rfl, tbm 11 (by decide +kernel) rfl⟩
set_option maxRecDepth 100000 in
theorem mlX12_66 : MLV RX12 66 yX12_puts cX12_puts 6 (some .int) 3 := ⟨⟨tbm 47 (by decide +kernel) rfl, tbm 746 (by decide +kernel) rfl, ⟨by decide, by decide, by decide +kernel⟩, by decide, Or.inl (tbm 743 (by decide +kernel) rfl)⟩, tbm 743 (by decide +kernel) rfl, tbm 745 (by decide +kernel) rfl, tbm 12 (by decide +kernel) rfl⟩
set_option maxRecDepth 100000 in
theorem mlL_22 : MLV RL 22 yX12_cancel cX12_cancel 2 (some .int) 1 := ⟨⟨tbm 47 (by decide +kernel) rfl, tbm 750 (by decide +kernel) rfl, ⟨by decide, by decide, by decide +kernel⟩, by decide, Or.inl (tbm 747 (by decide +kernel) rfl)⟩, tbm 747 (by decide +kernel) rfl, tbm 748 (by decide +kernel) rfl, tbm 749 (by decide +kernel) rfl⟩
set_option maxRecDepth 100000 in
theorem mlX12_70 : MLV RX12 70 yX12_isShower cX12_isShower 2 (some .boolean) 1 := ⟨⟨tbm 47 (by decide +kernel) rfl, tbm 754 (by decide +kernel) rfl, ⟨by decide, by decide, by decide +kernel⟩, by decide, Or.inl (tbm 751 (by decide +kernel) rfl)⟩, tbm 751 (by decide +kernel) rfl, tbm 753 (by decide +kernel) rfl, tbm 13 (by decide +kernel) rfl⟩
set_option maxRecDepth 100000 in
theorem mlX12_56 : MLV RX12 56 yX12_dropsShower cX12_dropsShower 4 none 1 := ⟨⟨tbm 47 (by decide +kernel) rfl, tbm 758 (by decide +kernel) rfl, ⟨by decide, by decide, by decide +kernel⟩, by decide, Or.inl (tbm 755 (by decide +kernel) rfl)⟩, tbm 755 (by decide +kernel) rfl, tbm 757 (by decide +kernel) rfl, tbm 14 (by decide +kernel) rfl⟩
set_option maxRecDepth 100000 in
theorem mlL_27 : MLV RL 27 yX12_shower cX12_shower 4 (some .int) 2 := ⟨⟨tbm 47 (by decide +kernel) rfl, tbm 762 (by decide +kernel) rfl, ⟨by decide, by decide, by decide +kernel⟩, by decide, Or.inl (tbm 759 (by decide +kernel) rfl)⟩, tbm 759 (by decide +kernel) rfl, tbm 760 (by decide +kernel) rfl, tbm 761 (by decide +kernel) rfl⟩
set_option maxRecDepth 100000 in
theorem mlL_31 : MLV RL 31 yX12_run cX12_run 2 (some .int) 1 := ⟨⟨tbm 47 (by decide +kernel) rfl, tbm 766 (by decide +kernel) rfl, ⟨by decide, by decide, by decide +kernel⟩, by decide, Or.inl (tbm 763 (by decide +kernel) rfl)⟩, tbm 763 (by decide +kernel) rfl, tbm 764 (by decide +kernel) rfl, tbm 765 (by decide +kernel) rfl⟩
set_option maxRecDepth 100000 in
theorem mlX12_74 : MLV RX12 74 yX12_goes cX12_goes 4 (some .int) 1 := ⟨⟨tbm 47 (by decide +kernel) rfl, tbm 770 (by decide +kernel) rfl, ⟨by decide, by decide, by decide +kernel⟩, by decide, Or.inl (tbm 767 (by decide +kernel) rfl)⟩, tbm 767 (by decide +kernel) rfl, tbm 769 (by decide +kernel) rfl, tbm 15 (by decide +kernel) rfl⟩
set_option maxRecDepth 100000 in
theorem mlX12_59 : MLV RX12 59 yX12_ticks cX12_ticks 7 (some .boolean) 0 := ⟨⟨tbm 47 (by decide +kernel) rfl, tbm 774 (by decide +kernel) rfl, ⟨by decide, by decide, by decide +kernel⟩, by decide, Or.inl (tbm 771 (by decide +kernel) rfl)⟩, tbm 771 (by decide +kernel) rfl, tbm 773 (by decide +kernel) rfl, tbm 16 (by decide +kernel) rfl⟩
set_option maxRecDepth 100000 in
theorem mlX12_45 : MLV RX12 45 yX12_rain cX12_rain 3 (some .int) 0 := ⟨⟨tbm 47 (by decide +kernel) rfl, tbm 778 (by decide +kernel) rfl, ⟨by decide, by decide, by decide +kernel⟩, by decide, Or.inl (tbm 775 (by decide +kernel) rfl)⟩, tbm 775 (by decide +kernel) rfl, tbm 777 (by decide +kernel) rfl, tbm 17 (by decide +kernel) rfl⟩
set_option maxRecDepth 100000 in
theorem mlX12_41 : MLS RX12 41 yX12_less cX12_less 2 (some .int) 2 := ⟨⟨tbm 47 (by decide +kernel) rfl, tbm 781 (by decide +kernel) rfl, ⟨by decide, by decide, by decide +kernel⟩, by decide, Or.inl (tbm 779 (by decide +kernel) rfl)⟩, tbm 780 (by decide +kernel) rfl⟩
set_option maxRecDepth 100000 in
theorem mlX12_48 : MLV RX12 48 yX12_dries cX12_dries 4 none 2 := ⟨⟨tbm 47 (by decide +kernel) rfl, tbm 785 (by decide +kernel) rfl, ⟨by decide, by decide, by decide +kernel⟩, by decide, Or.inl (tbm 782 (by decide +kernel) rfl)⟩, tbm 782 (by decide +kernel) rfl, tbm 784 (by decide +kernel) rfl, tbm 18 (by decide +kernel) rfl⟩
set_option maxRecDepth 100000 in
theorem mlX12_52 : MLV RX12 52 yX12_marks cX12_marks 4 none 1 := ⟨⟨tbm 47 (by decide +kernel) rfl, tbm 789 (by decide +kernel) rfl, ⟨by decide, by decide, by decide +kernel⟩, by decide, Or.inl (tbm 786 (by decide +kernel) rfl)⟩, tbm 786 (by decide +kernel) rfl, tbm 788 (by decide +kernel) rfl, tbm 19 (by decide +kernel) rfl⟩
set_option maxRecDepth 100000 in
theorem mlX12_37 : MLV RX12 37 yX12_place cX12_place 6 (some .int) 0 := ⟨⟨tbm 47 (by decide +kernel) rfl, tbm 793 (by decide +kernel) rfl, ⟨by decide, by decide, by decide +kernel⟩, by decide, Or.inl (tbm 790 (by decide +kernel) rfl)⟩, tbm 790 (by decide +kernel) rfl, tbm 792 (by decide +kernel) rfl, tbm 20 (by decide +kernel) rfl⟩
set_option maxRecDepth 100000 in
theorem mlL_36 : MLV RL 36 yX12_undo cX12_undo 2 (some .int) 0 := ⟨⟨tbm 47 (by decide +kernel) rfl, tbm 797 (by decide +kernel) rfl, ⟨by decide, by decide, by decide +kernel⟩, by decide, Or.inl (tbm 794 (by decide +kernel) rfl)⟩, tbm 794 (by decide +kernel) rfl, tbm 795 (by decide +kernel) rfl, tbm 796 (by decide +kernel) rfl⟩
set_option maxRecDepth 100000 in
theorem mlL_40 : MLV RL 40 yX12_set cX12_set 4 (some .int) 2 := ⟨⟨tbm 47 (by decide +kernel) rfl, tbm 801 (by decide +kernel) rfl, ⟨by decide, by decide, by decide +kernel⟩, by decide, Or.inl (tbm 798 (by decide +kernel) rfl)⟩, tbm 798 (by decide +kernel) rfl, tbm 799 (by decide +kernel) rfl, tbm 800 (by decide +kernel) rfl⟩
set_option maxRecDepth 100000 in
theorem mlX12_78 : MLS RX12 78 yX12_isSetting cX12_isSetting 2 (some .boolean) 2 := ⟨⟨tbm 47 (by decide +kernel) rfl, tbm 804 (by decide +kernel) rfl, ⟨by decide, by decide, by decide +kernel⟩, by decide, Or.inl (tbm 802 (by decide +kernel) rfl)⟩, tbm 803 (by decide +kernel) rfl⟩
set_option maxRecDepth 100000 in
theorem mlL_44 : MLV RL 44 yX12_wind cX12_wind 2 (some .int) 0 := ⟨⟨tbm 47 (by decide +kernel) rfl, tbm 808 (by decide +kernel) rfl, ⟨by decide, by decide, by decide +kernel⟩, by decide, Or.inl (tbm 805 (by decide +kernel) rfl)⟩, tbm 805 (by decide +kernel) rfl, tbm 806 (by decide +kernel) rfl, tbm 807 (by decide +kernel) rfl⟩
set_option maxRecDepth 100000 in
theorem mlL_48 : MLV RL 48 yX12_addGears cX12_addGears 3 (some .int) 2 := ⟨⟨tbm 47 (by decide +kernel) rfl, tbm 812 (by decide +kernel) rfl, ⟨by decide, by decide, by decide +kernel⟩, by decide, Or.inl (tbm 809 (by decide +kernel) rfl)⟩, tbm 809 (by decide +kernel) rfl, tbm 810 (by decide +kernel) rfl, tbm 811 (by decide +kernel) rfl⟩
set_option maxRecDepth 100000 in
theorem mlL_52 : MLV RL 52 yX12_removeGears cX12_removeGears 3 (some .int) 1 := ⟨⟨tbm 47 (by decide +kernel) rfl, tbm 816 (by decide +kernel) rfl, ⟨by decide, by decide, by decide +kernel⟩, by decide, Or.inl (tbm 813 (by decide +kernel) rfl)⟩, tbm 813 (by decide +kernel) rfl, tbm 814 (by decide +kernel) rfl, tbm 815 (by decide +kernel) rfl⟩
set_option maxRecDepth 100000 in
theorem mlX12_82 : MLV RX12 82 yX12_isPair cX12_isPair 2 (some .boolean) 1 := ⟨⟨tbm 47 (by decide +kernel) rfl, tbm 820 (by decide +kernel) rfl, ⟨by decide, by decide, by decide +kernel⟩, by decide, Or.inl (tbm 817 (by decide +kernel) rfl)⟩, tbm 817 (by decide +kernel) rfl, tbm 819 (by decide +kernel) rfl, tbm 21 (by decide +kernel) rfl⟩
set_option maxRecDepth 100000 in
theorem mlL_56 : MLV RL 56 yX12_gear cX12_gear 3 (some .int) 2 := ⟨⟨tbm 47 (by decide +kernel) rfl, tbm 824 (by decide +kernel) rfl, ⟨by decide, by decide, by decide +kernel⟩, by decide, Or.inl (tbm 821 (by decide +kernel) rfl)⟩, tbm 821 (by decide +kernel) rfl, tbm 822 (by decide +kernel) rfl, tbm 823 (by decide +kernel) rfl⟩
set_option maxRecDepth 100000 in
theorem mlL_60 : MLV RL 60 yX12_count cX12_count 2 (some .int) 1 := ⟨⟨tbm 47 (by decide +kernel) rfl, tbm 828 (by decide +kernel) rfl, ⟨by decide, by decide, by decide +kernel⟩, by decide, Or.inl (tbm 825 (by decide +kernel) rfl)⟩, tbm 825 (by decide +kernel) rfl, tbm 826 (by decide +kernel) rfl, tbm 827 (by decide +kernel) rfl⟩
set_option maxRecDepth 100000 in
theorem mlX12_85 : MLV RX12 85 yX12_parts cX12_parts 2 none 0 := ⟨⟨tbm 47 (by decide +kernel) rfl, tbm 832 (by decide +kernel) rfl, ⟨by decide, by decide, by decide +kernel⟩, by decide, Or.inl (tbm 829 (by decide +kernel) rfl)⟩, tbm 829 (by decide +kernel) rfl, tbm 831 (by decide +kernel) rfl, tbm 22 (by decide +kernel) rfl⟩
set_option maxRecDepth 100000 in
theorem mlX12_94 : MLV RX12 94 yX12_apart cX12_apart 2 (some .int) 1 := ⟨⟨tbm 47 (by decide +kernel) rfl, tbm 836 (by decide +kernel) rfl, ⟨by decide, by decide, by decide +kernel⟩, by decide, Or.inl (tbm 833 (by decide +kernel) rfl)⟩, tbm 833 (by decide +kernel) rfl, tbm 835 (by decide +kernel) rfl, tbm 23 (by decide +kernel) rfl⟩
set_option maxRecDepth 100000 in
theorem mlL_64 : MLV RL 64 yX12_account cX12_account 2 (some .int) 1 := ⟨⟨tbm 47 (by decide +kernel) rfl, tbm 840 (by decide +kernel) rfl, ⟨by decide, by decide, by decide +kernel⟩, by decide, Or.inl (tbm 837 (by decide +kernel) rfl)⟩, tbm 837 (by decide +kernel) rfl, tbm 838 (by decide +kernel) rfl, tbm 839 (by decide +kernel) rfl⟩
set_option maxRecDepth 100000 in
theorem mlL_68 : MLV RL 68 yX12_mark cX12_mark 3 (some .int) 2 := ⟨⟨tbm 47 (by decide +kernel) rfl, tbm 844 (by decide +kernel) rfl, ⟨by decide, by decide, by decide +kernel⟩, by decide, Or.inl (tbm 841 (by decide +kernel) rfl)⟩, tbm 841 (by decide +kernel) rfl, tbm 842 (by decide +kernel) rfl, tbm 843 (by decide +kernel) rfl⟩
set_option maxRecDepth 100000 in
theorem mlL_72 : MLV RL 72 yX12_storm cX12_storm 4 (some .int) 2 := ⟨⟨tbm 47 (by decide +kernel) rfl, tbm 848 (by decide +kernel) rfl, ⟨by decide, by decide, by decide +kernel⟩, by decide, Or.inl (tbm 845 (by decide +kernel) rfl)⟩, tbm 845 (by decide +kernel) rfl, tbm 846 (by decide +kernel) rfl, tbm 847 (by decide +kernel) rfl⟩
set_option maxRecDepth 100000 in
theorem mlX12_97 : MLV RX12 97 yX12_amountOf cX12_amountOf 2 (some .int) 1 := ⟨⟨tbm 47 (by decide +kernel) rfl, tbm 852 (by decide +kernel) rfl, ⟨by decide, by decide, by decide +kernel⟩, by decide, Or.inl (tbm 849 (by decide +kernel) rfl)⟩, tbm 849 (by decide +kernel) rfl, tbm 851 (by decide +kernel) rfl, tbm 24 (by decide +kernel) rfl⟩
set_option maxRecDepth 100000 in
theorem mlX12_100 : MLV RX12 100 yX12_lossOf cX12_lossOf 4 (some .int) 1 := ⟨⟨tbm 47 (by decide +kernel) rfl, tbm 856 (by decide +kernel) rfl, ⟨by decide, by decide, by decide +kernel⟩, by decide, Or.inl (tbm 853 (by decide +kernel) rfl)⟩, tbm 853 (by decide +kernel) rfl, tbm 855 (by decide +kernel) rfl, tbm 25 (by decide +kernel) rfl⟩
set_option maxRecDepth 100000 in
theorem mlX12_103 : MLV RX12 103 yX12_peakOf cX12_peakOf 6 (some .int) 1 := ⟨⟨tbm 47 (by decide +kernel) rfl, tbm 860 (by decide +kernel) rfl, ⟨by decide, by decide, by decide +kernel⟩, by decide, Or.inl (tbm 857 (by decide +kernel) rfl)⟩, tbm 857 (by decide +kernel) rfl, tbm 859 (by decide +kernel) rfl, tbm 26 (by decide +kernel) rfl⟩
set_option maxRecDepth 100000 in
theorem mlL_76 : MLV RL 76 yX12_greatestStorm cX12_greatestStorm 5 (some .int) 0 := ⟨⟨tbm 47 (by decide +kernel) rfl, tbm 864 (by decide +kernel) rfl, ⟨by decide, by decide, by decide +kernel⟩, by decide, Or.inl (tbm 861 (by decide +kernel) rfl)⟩, tbm 861 (by decide +kernel) rfl, tbm 862 (by decide +kernel) rfl, tbm 863 (by decide +kernel) rfl⟩
set_option maxRecDepth 100000 in
theorem mlL_80 : MLV RL 80 yX12_gapForOne cX12_gapForOne 3 (some .int) 0 := ⟨⟨tbm 47 (by decide +kernel) rfl, tbm 868 (by decide +kernel) rfl, ⟨by decide, by decide, by decide +kernel⟩, by decide, Or.inl (tbm 865 (by decide +kernel) rfl)⟩, tbm 865 (by decide +kernel) rfl, tbm 866 (by decide +kernel) rfl, tbm 867 (by decide +kernel) rfl⟩
set_option maxRecDepth 100000 in
theorem mlL_84 : MLV RL 84 yX12_ifRun cX12_ifRun 5 (some .int) 2 := ⟨⟨tbm 47 (by decide +kernel) rfl, tbm 872 (by decide +kernel) rfl, ⟨by decide, by decide, by decide +kernel⟩, by decide, Or.inl (tbm 869 (by decide +kernel) rfl)⟩, tbm 869 (by decide +kernel) rfl, tbm 870 (by decide +kernel) rfl, tbm 871 (by decide +kernel) rfl⟩
set_option maxRecDepth 100000 in
theorem mlX12_106 : MLV RX12 106 yX12_keeps cX12_keeps 2 none 0 := ⟨⟨tbm 47 (by decide +kernel) rfl, tbm 876 (by decide +kernel) rfl, ⟨by decide, by decide, by decide +kernel⟩, by decide, Or.inl (tbm 873 (by decide +kernel) rfl)⟩, tbm 873 (by decide +kernel) rfl, tbm 875 (by decide +kernel) rfl, tbm 27 (by decide +kernel) rfl⟩
set_option maxRecDepth 100000 in
theorem mlX12_109 : MLV RX12 109 yX12_restores cX12_restores 2 none 0 := ⟨⟨tbm 47 (by decide +kernel) rfl, tbm 880 (by decide +kernel) rfl, ⟨by decide, by decide, by decide +kernel⟩, by decide, Or.inl (tbm 877 (by decide +kernel) rfl)⟩, tbm 877 (by decide +kernel) rfl, tbm 879 (by decide +kernel) rfl, tbm 28 (by decide +kernel) rfl⟩
set_option maxRecDepth 100000 in
theorem mlL_88 : MLV RL 88 yX12_capacityFor cX12_capacityFor 6 (some .int) 2 := ⟨⟨tbm 47 (by decide +kernel) rfl, tbm 884 (by decide +kernel) rfl, ⟨by decide, by decide, by decide +kernel⟩, by decide, Or.inl (tbm 881 (by decide +kernel) rfl)⟩, tbm 881 (by decide +kernel) rfl, tbm 882 (by decide +kernel) rfl, tbm 883 (by decide +kernel) rfl⟩
set_option maxRecDepth 100000 in
theorem mlL_92 : MLV RL 92 yX12_untilStop cX12_untilStop 1 (some .int) 0 := ⟨⟨tbm 47 (by decide +kernel) rfl, tbm 889 (by decide +kernel) rfl, ⟨by decide, by decide, by decide +kernel⟩, by decide, Or.inl (tbm 886 (by decide +kernel) rfl)⟩, tbm 886 (by decide +kernel) rfl, tbm 887 (by decide +kernel) rfl, tbm 888 (by decide +kernel) rfl⟩
set_option maxRecDepth 100000 in
theorem mlL_96 : MLV RL 96 yX12_gearsFor cX12_gearsFor 4 (some .int) 1 := ⟨⟨tbm 47 (by decide +kernel) rfl, tbm 893 (by decide +kernel) rfl, ⟨by decide, by decide, by decide +kernel⟩, by decide, Or.inl (tbm 890 (by decide +kernel) rfl)⟩, tbm 890 (by decide +kernel) rfl, tbm 891 (by decide +kernel) rfl, tbm 892 (by decide +kernel) rfl⟩
set_option maxRecDepth 100000 in
theorem mlL_100 : MLV RL 100 yX12_type cX12_type 2 (some .int) 1 := ⟨⟨tbm 47 (by decide +kernel) rfl, tbm 897 (by decide +kernel) rfl, ⟨by decide, by decide, by decide +kernel⟩, by decide, Or.inl (tbm 894 (by decide +kernel) rfl)⟩, tbm 894 (by decide +kernel) rfl, tbm 895 (by decide +kernel) rfl, tbm 896 (by decide +kernel) rfl⟩
set_option maxRecDepth 100000 in
theorem mlL_104 : MLV RL 104 yX12_clearText cX12_clearText 2 (some .int) 0 := ⟨⟨tbm 47 (by decide +kernel) rfl, tbm 901 (by decide +kernel) rfl, ⟨by decide, by decide, by decide +kernel⟩, by decide, Or.inl (tbm 898 (by decide +kernel) rfl)⟩, tbm 898 (by decide +kernel) rfl, tbm 899 (by decide +kernel) rfl, tbm 900 (by decide +kernel) rfl⟩
set_option maxRecDepth 100000 in
theorem mlL_108 : MLV RL 108 yX12_fault cX12_fault 3 (some .int) 1 := ⟨⟨tbm 47 (by decide +kernel) rfl, tbm 905 (by decide +kernel) rfl, ⟨by decide, by decide, by decide +kernel⟩, by decide, Or.inl (tbm 902 (by decide +kernel) rfl)⟩, tbm 902 (by decide +kernel) rfl, tbm 903 (by decide +kernel) rfl, tbm 904 (by decide +kernel) rfl⟩
set_option maxRecDepth 100000 in
theorem mlX12_129 : MLV RX12 129 yX12_faulty cX12_faulty 2 (some .int) 0 := ⟨⟨tbm 47 (by decide +kernel) rfl, tbm 909 (by decide +kernel) rfl, ⟨by decide, by decide, by decide +kernel⟩, by decide, Or.inl (tbm 906 (by decide +kernel) rfl)⟩, tbm 906 (by decide +kernel) rfl, tbm 908 (by decide +kernel) rfl, tbm 29 (by decide +kernel) rfl⟩
set_option maxRecDepth 100000 in
theorem mlX12_126 : MLV RX12 126 yX12_readsShower cX12_readsShower 3 (some .boolean) 0 := ⟨⟨tbm 47 (by decide +kernel) rfl, tbm 913 (by decide +kernel) rfl, ⟨by decide, by decide, by decide +kernel⟩, by decide, Or.inl (tbm 910 (by decide +kernel) rfl)⟩, tbm 910 (by decide +kernel) rfl, tbm 912 (by decide +kernel) rfl, tbm 30 (by decide +kernel) rfl⟩
set_option maxRecDepth 100000 in
theorem mlX12_122 : MLV RX12 122 yX12_takes cX12_takes 6 (some .boolean) 2 := ⟨⟨tbm 47 (by decide +kernel) rfl, tbm 917 (by decide +kernel) rfl, ⟨by decide, by decide, by decide +kernel⟩, by decide, Or.inl (tbm 914 (by decide +kernel) rfl)⟩, tbm 914 (by decide +kernel) rfl, tbm 916 (by decide +kernel) rfl, tbm 31 (by decide +kernel) rfl⟩
set_option maxRecDepth 100000 in
theorem mlL_112 : MLV RL 112 yX12_lay cX12_lay 2 (some .int) 0 := ⟨⟨tbm 47 (by decide +kernel) rfl, tbm 921 (by decide +kernel) rfl, ⟨by decide, by decide, by decide +kernel⟩, by decide, Or.inl (tbm 918 (by decide +kernel) rfl)⟩, tbm 918 (by decide +kernel) rfl, tbm 919 (by decide +kernel) rfl, tbm 920 (by decide +kernel) rfl⟩
set_option maxRecDepth 100000 in
theorem kcX11_226 : Cond.constant RX11 226 (Int32.ofInt 100000) ∈ TB := tbm 624 (by decide +kernel) rfl
set_option maxRecDepth 100000 in
theorem kcX12_112 : Cond.constant RX12 112 (Int32.ofInt 100000) ∈ TB := tbm 885 (by decide +kernel) rfl
end
section
/-! rows that make cells, and System.arraycopy -/
theorem hx_find {G : Gc} {s : State} (hK : va_K (gD G) vwCl (gtys G) s) {t : Nat} {ty : FieldType} (ht : (gtys G)[t]? = some (gK G t, ty)) (hty : ∀ C, ty ≠ .object C) : s.vm.findClass ("[" ++ ty.toString) = some (gK G t) := by
  have h := (hK.2 t _ ht).2
  unfold va_RA at h
  cases ty <;> first | exact h | exact absurd rfl (hty _)
def cpyI (f g : Nat → Int) (sp dp n : Nat) : Nat → Int := fun k => if dp ≤ k ∧ k < dp + n then f (sp + (k - dp)) else g k
theorem iI_nn {j : Nat} (h : (j : Int) < 2147483648) : ¬ iI (j : Int) < 0 := by
  rw [iI_0, iI_lt ⟨by omega, h⟩ ⟨by omega, by omega⟩]
  omega
def NW (ow : String) (idx ci N : Nat) (fs : List Value) : Prop := ∃ (C : String) (T : u_T) (ty : Nat → FieldType), vwCl[ci]? = some (C, T, N) ∧ (∀ w ∈ u_ws C T N, w ∈ TB) ∧ Cond.classLink ow idx C ∈ TB ∧ Cond.instantiable C N ∈ TB ∧ Cond.initialized C ∈ TB ∧ (∀ k, k < N → parseFieldDescriptor (T k).2.2.1 = some (ty k)) ∧ (∀ j, j < N → defaultValue (ty j) = vp_V fs j)
section Alloc
variable {X : Fx} {E : Wd} {z : Nat × Nat × Nat} {pc : Nat} {ls ls' : List (Option Value)} {st : List Value} {cc : ByteArray} {ow : String}
theorem v_objInit (cx : Cx X cc ow) {lv mc ms idx o : Nat} (hR : RM X lv mc ms) (hlv : 1 ≤ lv) (hl : Cond.methodLink ow idx Lib.objectInit ∈ TB) (hi : Cond.instanceMethod Lib.objectInit ∈ TB) (hco : Cond.code Lib.objectInit ⟨#[0xb1]⟩ 1 none ∈ TB) (hcat : (st.map fun v => v.category).sum ≤ 8) (hd : decode cc pc = .ok (.invokespecial idx, 3)) (kk : V X E z (pc + 3) ls st) : V X E z pc ls (.ref o :: st) := by
  intro H locs L h1
  have ht := cx.2.2.2.1
  refine W.objInit cx.1 cx.2.1 cx.2.2.1 (ht _ hl) (ht _ hi) (ht _ hco) rfl (h1.2.2.2.1.1.trans h1.2.2.2.2) rfl hd (by rw [hR]; exact hlv) ?_ (kk H locs L h1)
  rw [hR]
  show 2 * 0 + _ + 12 ≤ 33 * lv
  omega
theorem v_new (cx : Cx X cc ow) {lv mc ms idx ci N : Nat} {fs : List Value} (hR : RM X lv mc ms) (hw : NW ow idx ci N fs) (hroom : z.2.1 + 1 ≤ mc ∧ z.2.2 + N ≤ ms) (hd : decode cc pc = .ok (.new idx, 3)) (kk : ∀ E1 : Wd, E1 z.1 = some (.inr (ci, fs)) → (∀ j, j ≠ z.1 → E1 j = E j) → V X E1 (z.1 + 1, z.2.1 + 1, z.2.2 + N) (pc + 3) ls (.ref (gb (fG X) + z.1) :: st)) : V X E z pc ls st := by
  intro H locs L h1
  obtain ⟨C, T, ty, hc, hin, w1, w2, w3, hty, hfs⟩ := hw
  have ht := cx.2.2.2.1
  have hKn := cx.2.2.2.2.1.1.1 ci _ hc
  refine W.newcK cx.1 cx.2.1 cx.2.2.1 (ht _ w1) (ht _ w2) (ht _ w3) rfl hd (by rw [hR]; exact hroom.1) (by rw [hR]; exact hroom.2) hKn.2.1 h1.2.1 fun H1 kC hkC e1 z1 o1 => ?_
  have hS := h1.2.2.1
  refine kk (upW E z.1 (.inr (ci, fs))) upW_s upW_n H1 locs L ⟨fun k x hk => ?_, by rw [z1]; exact Nat.add_assoc _ _ _, ⟨Nat.le_trans hS.1 (by rw [h1.2.1, z1]; omega), fun q g1 g2 => (o1 q (by rw [← h1.2.1]; exact Nat.lt_of_lt_of_le g1 hS.1)).trans (hS.2.1 q g1 g2), hS.2.2⟩, h1.2.2.2⟩
  by_cases hkz : k = z.1
  · subst hkz
    rw [upW_s] at hk
    cases hk
    exact ⟨_, hc, (u_born ty ht hin hKn hkC e1 hty).to hfs⟩
  · rw [upW_n k hkz] at hk
    have := h1.1 k x hk
    exact this.kept (o1 _ (by have := this.lt; rw [h1.2.1] at this; exact this))
theorem v_newarr (cx : Cx X cc ow) {lv mc ms t N : Nat} {a : Int} {atype : ArrayType} {a0 : vp_A} (hR : RM X lv mc ms) (hw : Cond.arrayClass (newarray.typeOf atype) ∈ TB) (ht : (gtys (fG X))[t]? = some (gK (fG X) t, newarray.typeOf atype)) (hob : ∀ C, newarray.typeOf atype ≠ .object C) (ha : a = (N : Int) ∧ (N : Int) < 100000) (hcell : vp_cell (gK (fG X) t) a0 = arrV (gK (fG X) t) N (fun _ => defaultValue (newarray.typeOf atype))) (hb : componentBytes (newarray.typeOf atype) ≤ 8) (hroom : z.2.1 + 1 ≤ mc ∧ z.2.2 + N ≤ ms) (hd : decode cc pc = .ok (.newarray atype, 2))
    (kk : ∀ E1 : Wd, E1 z.1 = some (.inl (gK (fG X) t, a0)) → (∀ j, j ≠ z.1 → E1 j = E j) → V X E1 (z.1 + 1, z.2.1 + 1, z.2.2 + N) (pc + 2) ls (.ref (gb (fG X) + z.1) :: st)) : V X E z pc ls (.int (iI a) :: st) := by
  intro H locs L h1
  obtain ⟨rfl, hN⟩ := ha
  have hts := cx.2.2.2.1
  refine va_newaK cx.1 cx.2.1 (hts _ hw) rfl hd rfl (iI_nn (by omega)) (iI_clamp (by omega)) ?_ (by rw [hR]; exact hroom.1) (by rw [hR]; exact hroom.2) h1.2.1 fun H1 cA e1 z1 o1 hAr hNm => ?_
  · have := Nat.mul_le_mul_left N hb
    omega
  · have hcA : cA = gK (fG X) t := Option.some.inj (hNm.symm.trans (hx_find cx.2.2.2.2.1.1 ht hob))
    subst hcA
    have hS := h1.2.2.1
    refine kk (upW E z.1 _) upW_s upW_n H1 locs L ⟨fun k x hk => ?_, by rw [z1]; exact Nat.add_assoc _ _ _, ⟨Nat.le_trans hS.1 (by rw [h1.2.1, z1]; omega), fun q g1 g2 => (o1 q (by rw [← h1.2.1]; exact Nat.lt_of_lt_of_le g1 hS.1)).trans (hS.2.1 q g1 g2), hS.2.2⟩, h1.2.2.2⟩
    by_cases hkz : k = z.1
    · subst hkz
      rw [upW_s] at hk
      cases hk
      show H1[_]? = some (vp_cell _ _)
      rw [hcell]
      exact e1
    · rw [upW_n k hkz] at hk
      have := h1.1 k x hk
      exact this.kept (o1 _ (by have := this.lt; rw [h1.2.1] at this; exact this))
theorem v_newint (cx : Cx X cc ow) {lv mc ms : Nat} (N : Nat) {a : Int} (hR : RM X lv mc ms) (hw : Cond.arrayClass .int ∈ TB) (ha : a = (N : Int) ∧ (N : Int) < 100000) (hroom : z.2.1 + 1 ≤ mc ∧ z.2.2 + N ≤ ms) (hd : decode cc pc = .ok (.newarray .int, 2)) (kk : ∀ E1 : Wd, E1 z.1 = some (AI (fG X) N (fun _ => 0)) → (∀ j, j ≠ z.1 → E1 j = E j) → V X E1 (z.1 + 1, z.2.1 + 1, z.2.2 + N) (pc + 2) ls (.ref (gb (fG X) + z.1) :: st)) : V X E z pc ls (.int (iI a) :: st) :=
  v_newarr cx (t := 0) (atype := .int) hR hw rfl (fun _ h => by cases h) ha rfl (by decide) hroom hd kk
theorem v_newchar (cx : Cx X cc ow) {lv mc ms : Nat} (N : Nat) {a : Int} (hR : RM X lv mc ms) (hw : Cond.arrayClass .char ∈ TB) (ha : a = (N : Int) ∧ (N : Int) < 100000) (hroom : z.2.1 + 1 ≤ mc ∧ z.2.2 + N ≤ ms) (hd : decode cc pc = .ok (.newarray .char, 2)) (kk : ∀ E1 : Wd, E1 z.1 = some (AC (fG X) N (fun _ => 0)) → (∀ j, j ≠ z.1 → E1 j = E j) → V X E1 (z.1 + 1, z.2.1 + 1, z.2.2 + N) (pc + 2) ls (.ref (gb (fG X) + z.1) :: st)) : V X E z pc ls (.int (iI a) :: st) :=
  v_newarr cx (t := 1) (atype := .char) hR hw rfl (fun _ h => by cases h) ha rfl (by decide) hroom hd kk
theorem v_newbool (cx : Cx X cc ow) {lv mc ms : Nat} (N : Nat) {a : Int} (hR : RM X lv mc ms) (hw : Cond.arrayClass .boolean ∈ TB) (ha : a = (N : Int) ∧ (N : Int) < 100000) (hroom : z.2.1 + 1 ≤ mc ∧ z.2.2 + N ≤ ms) (hd : decode cc pc = .ok (.newarray .boolean, 2)) (kk : ∀ E1 : Wd, E1 z.1 = some (AZ (fG X) N (fun _ => 0)) → (∀ j, j ≠ z.1 → E1 j = E j) → V X E1 (z.1 + 1, z.2.1 + 1, z.2.2 + N) (pc + 2) ls (.ref (gb (fG X) + z.1) :: st)) : V X E z pc ls (.int (iI a) :: st) :=
  v_newarr cx (t := 2) (atype := .boolean) hR hw rfl (fun _ h => by cases h) ha rfl (by decide) hroom hd kk
theorem v_newstates (cx : Cx X cc ow) {lv mc ms idx : Nat} (N : Nat) {a : Int} (hR : RM X lv mc ms) (hw : Cond.classLink ow idx RX9 ∈ TB) (ha : a = (N : Int) ∧ (N : Int) < 100000) (hroom : z.2.1 + 1 ≤ mc ∧ z.2.2 + N ≤ ms) (hd : decode cc pc = .ok (.anewarray idx, 3)) (kk : ∀ E1 : Wd, E1 z.1 = some (AS (fG X) N (fun _ => none)) → (∀ j, j ≠ z.1 → E1 j = E j) → V X E1 (z.1 + 1, z.2.1 + 1, z.2.2 + N) (pc + 3) ls (.ref (gb (fG X) + z.1) :: st)) : V X E z pc ls (.int (iI a) :: st) := by
  intro H locs L h1
  obtain ⟨rfl, hN⟩ := ha
  have hts := cx.2.2.2.1
  have hcl : (iI (N : Int)).toNatClampNeg = N := iI_clamp (by omega)
  refine W.anew cx.1 cx.2.1 cx.2.2.1 (hts _ hw) (va_AO.use cx.2.2.2.2.1.2.2.2) rfl hd rfl (iI_nn (by omega)) (by rw [hcl]; omega) (by rw [hR]; exact hroom.1) (by rw [hR, hcl]; exact hroom.2) fun cA kA comp f1 f2 f3 f4 => ?_
  rw [hcl]
  have hcA : cA = gK (fG X) 3 := by
    obtain ⟨kA', comp', g1, g2, g3, g4⟩ := (cx.2.2.2.2.1.1.2 3 _ rfl).2
    exact Option.some.inj (f1.symm.trans g4)
  subst hcA
  generalize hH1 : H.push ({ cls := gK (fG X) 3, slots := Array.replicate N .null, vm := .none } : Cell) = H1
  have z1 : H1.size = H.size + 1 := by rw [← hH1, Array.size_push]
  have e1 : H1[H.size]? = some (arrV (gK (fG X) 3) N (fun _ => .null)) := by rw [← hH1, Array.getElem?_push_size, ← arrV_new]
  have o1 : ∀ q : Nat, q < H.size → H1[q]? = H[q]? := fun q hq => by rw [← hH1, Array.getElem?_push, if_neg (Nat.ne_of_lt hq)]
  have hS := h1.2.2.1
  show W _ _ _ _ _ _ _ _ _ _ _ _ _ _ _ (F0 _ _ _ (.ref H.size :: st))
  rw [h1.2.1]
  rw [h1.2.1] at e1
  refine kk (upW E z.1 _) upW_s upW_n H1 locs L ⟨fun k x hk => ?_, by rw [z1, h1.2.1]; exact Nat.add_assoc _ _ _, ⟨Nat.le_trans hS.1 (by rw [z1]; omega), fun q g1 g2 => (o1 q (Nat.lt_of_lt_of_le g1 hS.1)).trans (hS.2.1 q g1 g2), hS.2.2⟩, h1.2.2.2⟩
  by_cases hkz : k = z.1
  · subst hkz
    rw [upW_s] at hk
    cases hk
    show H1[_]? = some (vp_cell _ _)
    rw [vp_cell_q]
    exact e1
  · rw [upW_n k hkz] at hk
    have := h1.1 k x hk
    exact this.kept (o1 _ this.lt)
theorem v_copyG (cx : Cx X cc ow) {lv mc ms idx od a0 n0 n1 : Nat} {f g : Nat → Int} {sp dp n : Int} {cs : Cell} (jsp jdp jn : Nat) (hR : RM X lv mc ms) (hlv : 1 ≤ lv) (w1 : Cond.methodLink ow idx arraycopyName ∈ TB) (w2 : Cond.native arraycopyName ∈ TB) (w3 : Cond.static arraycopyName ∈ TB) (w4 : Cond.initialized "java/lang/System" ∈ TB)
    (hcs : ∀ H locs L, Rd X E z ls H locs L → H[a0]? = some cs) (har : (fS X).isArrayOf cs .int) (hun : cs.vm ≠ .unknown) (hsz : n0 ≤ cs.slots.size) (hel : ∀ j, j < n0 → cs.slots[j]? = some (.int (iI (f j)))) (he1 : E od = some (AI (fG X) n1 g))
    (hj : sp = (jsp : Int) ∧ dp = (jdp : Int) ∧ n = (jn : Int) ∧ jsp + jn ≤ n0 ∧ jdp + jn ≤ n1 ∧ n0 < 2147483648 ∧ n1 < 2147483648) (hcat : (st.map fun v => v.category).sum ≤ 8) (hd : decode cc pc = .ok (.invokestatic idx, 3))
    (kk : ∀ E1 : Wd, E1 od = some (AI (fG X) n1 (cpyI f g jsp jdp jn)) → (∀ j, j ≠ od → E1 j = E j) → V X E1 z (pc + 3) ls st) : V X E z pc ls (.int (iI n) :: .int (iI dp) :: .ref (gb (fG X) + od) :: .int (iI sp) :: .ref a0 :: st) := by
  intro H locs L h1 T hT X0
  obtain ⟨rfl, rfl, rfl, hb1, hb2, hb3, hb4⟩ := hj
  have hts := cx.2.2.2.1
  have hc0 := hcs H locs L h1
  have hc1 : H[gb (fG X) + od]? = some (vp_cell (gK (fG X) 0) (n1, .inl (fun j => iI (g j)))) := h1.1 od _ he1
  obtain ⟨hob, k0, hk0, cm0, hkk0⟩ := har
  obtain ⟨-, k1, hk1, cm1, hkk1⟩ := (cx.2.2.2.2.1.1.2 0 _ rfl).1 n1 (fun j => .int (iI (g j)))
  have cl1 : (iI (jsp : Int)).toNatClampNeg = jsp := iI_clamp (by omega)
  have cl2 : (iI (jdp : Int)).toNatClampNeg = jdp := iI_clamp (by omega)
  have cl3 : (iI (jn : Int)).toNatClampNeg = jn := iI_clamp (by omega)
  have t1 : (iI (jsp : Int)).toInt = jsp := iI_toInt ⟨by omega, by omega⟩
  have t2 : (iI (jdp : Int)).toInt = jdp := iI_toInt ⟨by omega, by omega⟩
  have t3 : (iI (jn : Int)).toInt = jn := iI_toInt ⟨by omega, by omega⟩
  obtain ⟨vm', X', step⟩ := X0.arraycopy cx.1 cx.2.2.1 (hts _ w1) (hts _ w2) (hts _ w3) (hts _ w4) (src := a0) (dst := gb (fG X) + od) (cs := cs) (cd := vp_cell (gK (fG X) 0) (n1, .inl (fun j => iI (g j)))) (srcPos := iI (jsp : Int)) (destPos := iI (jdp : Int)) (n := iI (jn : Int)) (by rw [hT]; exact hc0) (by rw [hT]; exact hc1)
    hob (fun _ h => by cases h) hun (fun h => by cases h) hk0 hk1 hkk0 hkk1 (by simp [refKind]) (iI_nn (by omega)) (iI_nn (by omega)) (iI_nn (by omega))
    (by rw [t1, t3]; omega)
    (by rw [t2, t3]; show ¬ _ > ((arrV (gK (fG X) 0) n1 (fun j => .int (iI (g j)))).slots.size : Int); rw [arrV_size]; omega)
    (fun vm₁ _ i hi => by
      rw [cl3] at hi
      have e : cs.slots.getD ((iI (jsp : Int)).toNatClampNeg + i) .null = .int (iI (f (jsp + i))) := by
        rw [cl1, Array.getD_eq_getD_getElem?, hel _ (by omega)]
        rfl
      refine ⟨?_, ?_⟩
      · rw [e]
        rfl
      · rw [e]
        exact trivial)
    (g := F0 (fM X) pc L (.int (iI (jn : Int)) :: .int (iI (jdp : Int)) :: .ref (gb (fG X) + od) :: .int (iI (jsp : Int)) :: .ref a0 :: st)) rfl (h1.2.2.2.1.1.trans h1.2.2.2.2) (rest := st) rfl (by rw [cx.2.1]; exact hd) (by rw [hR]; exact hlv) (by
      rw [hR]
      show 2 * 0 + _ + (7 + 11) ≤ 33 * lv
      omega)
  have e1 : copied cs (vp_cell (gK (fG X) 0) (n1, .inl (fun j => iI (g j)))) (iI (jsp : Int)) (iI (jdp : Int)) (iI (jn : Int)) = vp_cell (gK (fG X) 0) (n1, .inl (fun j => iI (cpyI f g jsp jdp jn j))) := by
    show (arrV (gK (fG X) 0) n1 (fun j => .int (iI (g j)))).storeRun (iI (jdp : Int)).toNatClampNeg (cs.stretch (iI (jsp : Int)).toNatClampNeg (iI (jn : Int)).toNatClampNeg) = arrV (gK (fG X) 0) n1 (fun j => .int (iI (cpyI f g jsp jdp jn j)))
    rw [cl1, cl2, cl3]
    have e : cs.stretch jsp jn = (List.range jn).map (fun i => .int (iI (f (jsp + i)))) := by
      unfold Cell.stretch
      apply List.map_congr_left
      intro i hi
      have hi' := List.mem_range.mp hi
      rw [Array.getD_eq_getD_getElem?, hel _ (by omega)]
      rfl
    rw [e, Cell.storeRun, va_pairs]
    congr 1
    funext k
    simp only [cpyI, List.length_map, List.length_range, Nat.add_zero]
    by_cases h : jdp ≤ k ∧ k < jdp + jn
    · rw [if_pos h, if_pos h, List.getD_eq_getElem?_getD, List.getElem?_map, List.getElem?_range (by omega)]
      rfl
    · rw [if_neg h, if_neg h]
  rw [e1] at X' step
  generalize hnc : vp_cell (gK (fG X) 0) (n1, .inl (fun j => iI (cpyI f g jsp jdp jn j))) = nc at X' step
  have hl : gb (fG X) + od < H.size := (Array.getElem?_eq_some_iff.mp hc1).1
  have hheap : ((T.setVm vm').setCell (gb (fG X) + od) nc).heap = H.setIfInBounds (gb (fG X) + od) nc := by rw [← hT]; rfl
  have oq : ∀ q : Nat, q ≠ gb (fG X) + od → (H.setIfInBounds (gb (fG X) + od) nc)[q]? = H[q]? := fun q hq => by simp [Array.getElem?_setIfInBounds, Ne.symm hq]
  have hS := h1.2.2.1
  obtain ⟨t, a1, b1⟩ := kk _ upW_s upW_n _ _ L ⟨h1.1.upd (show (H.setIfInBounds (gb (fG X) + od) nc)[gb (fG X) + od]? = some _ by simp [Array.getElem?_setIfInBounds, hl, ← hnc]) oq, by simp; exact h1.2.1, ⟨by simp; exact hS.1, fun q g1 g2 => by
      rw [oq q (fun e => g2 (by rw [e]; exact gO_o))]
      exact hS.2.1 q g1 g2, fun q hq => by
      rcases List.mem_append.mp hq with h | h
      · exact hS.2.2 q h
      · obtain ⟨z, -, hz⟩ := List.mem_map.mp h
        rw [← hz]
        exact gO_o⟩, h1.2.2.2⟩ _ hheap X'
  exact ⟨t, step t a1, b1⟩
theorem v_copy (cx : Cx X cc ow) {lv mc ms idx od os n0 n1 : Nat} {f g : Nat → Int} {sp dp n : Int} (jsp jdp jn : Nat) (hR : RM X lv mc ms) (hlv : 1 ≤ lv) (w1 : Cond.methodLink ow idx arraycopyName ∈ TB) (w2 : Cond.native arraycopyName ∈ TB) (w3 : Cond.static arraycopyName ∈ TB) (w4 : Cond.initialized "java/lang/System" ∈ TB)
    (he0 : E os = some (AI (fG X) n0 f)) (he1 : E od = some (AI (fG X) n1 g))
    (hj : sp = (jsp : Int) ∧ dp = (jdp : Int) ∧ n = (jn : Int) ∧ jsp + jn ≤ n0 ∧ jdp + jn ≤ n1 ∧ n0 < 2147483648 ∧ n1 < 2147483648) (hcat : (st.map fun v => v.category).sum ≤ 8) (hd : decode cc pc = .ok (.invokestatic idx, 3))
    (kk : ∀ E1 : Wd, E1 od = some (AI (fG X) n1 (cpyI f g jsp jdp jn)) → (∀ j, j ≠ od → E1 j = E j) → V X E1 z (pc + 3) ls st) : V X E z pc ls (.int (iI n) :: .int (iI dp) :: .ref (gb (fG X) + od) :: .int (iI sp) :: .ref (gb (fG X) + os) :: st) :=
  v_copyG cx (cs := vp_cell (gK (fG X) 0) (n0, .inl (fun j => iI (f j)))) jsp jdp jn hR hlv w1 w2 w3 w4 (fun H locs L h1 => h1.1 os _ he0) ((cx.2.2.2.2.1.1.2 0 _ rfl).1 n0 (fun j => .int (iI (f j)))) (fun h => by cases h) (by show n0 ≤ (arrV _ _ _).slots.size; rw [arrV_size]; exact Nat.le_refl _) (fun j hj => by show (arrV _ _ _).slots[_]? = _; rw [arrV_read _ _ hj]) he1 hj hcat hd kk
theorem v_copyT (cx : Cx X cc ow) {lv mc ms idx od i n1 : Nat} {g : Nat → Int} {sp dp n : Int} (jsp jdp jn : Nat) (hR : RM X lv mc ms) (hlv : 1 ≤ lv) (w1 : Cond.methodLink ow idx arraycopyName ∈ TB) (w2 : Cond.native arraycopyName ∈ TB) (w3 : Cond.static arraycopyName ∈ TB) (w4 : Cond.initialized "java/lang/System" ∈ TB)
    (hi : i < 3) (he1 : E od = some (AI (fG X) n1 g))
    (hj : sp = (jsp : Int) ∧ dp = (jdp : Int) ∧ n = (jn : Int) ∧ jsp + jn ≤ 8 ∧ jdp + jn ≤ n1 ∧ n1 < 2147483648) (hcat : (st.map fun v => v.category).sum ≤ 8) (hd : decode cc pc = .ok (.invokestatic idx, 3))
    (kk : ∀ E1 : Wd, E1 od = some (AI (fG X) n1 (cpyI (tbV i) g jsp jdp jn)) → (∀ j, j ≠ od → E1 j = E j) → V X E1 z (pc + 3) ls st) : V X E z pc ls (.int (iI n) :: .int (iI dp) :: .ref (gb (fG X) + od) :: .int (iI sp) :: .ref (gT (fG X) i) :: st) := by
  obtain ⟨cell, c1, c2, c3, c4, c5, c6, c7⟩ := (cx.2.2.2.2.1.2.1 i hi).2
  exact v_copyG cx (cs := cell) (n0 := 8) jsp jdp jn hR hlv w1 w2 w3 w4 (fun H locs L h1 => by rw [h1.2.2.1.2.1 _ (Array.getElem?_eq_some_iff.mp c1).1 c7]; exact c1) c2 c3 c4 c6 he1 ⟨hj.1, hj.2.1, hj.2.2.1, hj.2.2.2.1, hj.2.2.2.2.1, by omega, hj.2.2.2.2.2⟩ hcat hd kk
end Alloc
end
section
set_option maxRecDepth 100000 in
theorem nwL_7 : NW RL 7 11 6 [.null, .null, .null, .null, .null, .null] := ⟨_, _, tyX11, rfl, tb_in11, tbm 48 (by decide +kernel) rfl, tbm 49 (by decide +kernel) rfl, tbm 33 (by decide +kernel) rfl, tyX11_ok, fun j hj => by rcases (show j = 0 ∨ j = 1 ∨ j = 2 ∨ j = 3 ∨ j = 4 ∨ j = 5 by omega) with rfl | rfl | rfl | rfl | rfl | rfl <;> rfl⟩
set_option maxRecDepth 100000 in
theorem nwX11_7 : NW RX11 7 9 9 [.null, .null, .null, .null, .null, .null, .null, .int (iI 0), .int (iI 0)] := ⟨_, _, tyX9, rfl, tb_in9, tbm 56 (by decide +kernel) rfl, tbm 57 (by decide +kernel) rfl, tbm 34 (by decide +kernel) rfl, tyX9_ok, fun j hj => by rcases (show j = 0 ∨ j = 1 ∨ j = 2 ∨ j = 3 ∨ j = 4 ∨ j = 5 ∨ j = 6 ∨ j = 7 ∨ j = 8 by omega) with rfl | rfl | rfl | rfl | rfl | rfl | rfl | rfl | rfl <;> rfl⟩
set_option maxRecDepth 100000 in
theorem nwX9_15 : NW RX9 15 8 4 [.null, .null, .null, .int (iI 0)] := ⟨_, _, tyX8, rfl, tb_in8, tbm 62 (by decide +kernel) rfl, tbm 63 (by decide +kernel) rfl, tbm 35 (by decide +kernel) rfl, tyX8_ok, fun j hj => by rcases (show j = 0 ∨ j = 1 ∨ j = 2 ∨ j = 3 by omega) with rfl | rfl | rfl | rfl <;> rfl⟩
set_option maxRecDepth 100000 in
theorem nwX9_22 : NW RX9 22 2 2 [.int (iI 0), .int (iI 0)] := ⟨_, _, tyX2, rfl, tb_in2, tbm 86 (by decide +kernel) rfl, tbm 87 (by decide +kernel) rfl, tbm 36 (by decide +kernel) rfl, tyX2_ok, fun j hj => by rcases (show j = 0 ∨ j = 1 by omega) with rfl | rfl <;> rfl⟩
set_option maxRecDepth 100000 in
theorem nwX9_29 : NW RX9 29 0 6 [.int (iI 0), .int (iI 0), .int (iI 0), .int (iI 0), .int (iI 0), .int (iI 0)] := ⟨_, _, tyX0, rfl, tb_in0, tbm 101 (by decide +kernel) rfl, tbm 102 (by decide +kernel) rfl, tbm 37 (by decide +kernel) rfl, tyX0_ok, fun j hj => by rcases (show j = 0 ∨ j = 1 ∨ j = 2 ∨ j = 3 ∨ j = 4 ∨ j = 5 by omega) with rfl | rfl | rfl | rfl | rfl | rfl <;> rfl⟩
set_option maxRecDepth 100000 in
theorem nwX9_36 : NW RX9 36 1 2 [.int (iI 0), .int (iI 0)] := ⟨_, _, tyX1, rfl, tb_in1, tbm 134 (by decide +kernel) rfl, tbm 135 (by decide +kernel) rfl, tbm 38 (by decide +kernel) rfl, tyX1_ok, fun j hj => by rcases (show j = 0 ∨ j = 1 by omega) with rfl | rfl <;> rfl⟩
set_option maxRecDepth 100000 in
theorem nwX9_43 : NW RX9 43 3 3 [.null, .null, .int (iI 0)] := ⟨_, _, tyX3, rfl, tb_in3, tbm 152 (by decide +kernel) rfl, tbm 153 (by decide +kernel) rfl, tbm 39 (by decide +kernel) rfl, tyX3_ok, fun j hj => by rcases (show j = 0 ∨ j = 1 ∨ j = 2 by omega) with rfl | rfl | rfl <;> rfl⟩
set_option maxRecDepth 100000 in
theorem nwX9_50 : NW RX9 50 5 4 [.null, .null, .null, .int (iI 0)] := ⟨_, _, tyX5, rfl, tb_in5, tbm 171 (by decide +kernel) rfl, tbm 172 (by decide +kernel) rfl, tbm 40 (by decide +kernel) rfl, tyX5_ok, fun j hj => by rcases (show j = 0 ∨ j = 1 ∨ j = 2 ∨ j = 3 by omega) with rfl | rfl | rfl | rfl <;> rfl⟩
set_option maxRecDepth 100000 in
theorem nwX11_19 : NW RX11 19 4 2 [.null, .int (iI 0)] := ⟨_, _, tyX4, rfl, tb_in4, tbm 245 (by decide +kernel) rfl, tbm 246 (by decide +kernel) rfl, tbm 43 (by decide +kernel) rfl, tyX4_ok, fun j hj => by rcases (show j = 0 ∨ j = 1 by omega) with rfl | rfl <;> rfl⟩
set_option maxRecDepth 100000 in
theorem nwX4_9 : NW RX4 9 9 9 [.null, .null, .null, .null, .null, .null, .null, .int (iI 0), .int (iI 0)] := ⟨_, _, tyX9, rfl, tb_in9, tbm 251 (by decide +kernel) rfl, tbm 57 (by decide +kernel) rfl, tbm 34 (by decide +kernel) rfl, tyX9_ok, fun j hj => by rcases (show j = 0 ∨ j = 1 ∨ j = 2 ∨ j = 3 ∨ j = 4 ∨ j = 5 ∨ j = 6 ∨ j = 7 ∨ j = 8 by omega) with rfl | rfl | rfl | rfl | rfl | rfl | rfl | rfl | rfl <;> rfl⟩
set_option maxRecDepth 100000 in
theorem nwX11_26 : NW RX11 26 6 3 [.null, .null, .int (iI 0)] := ⟨_, _, tyX6, rfl, tb_in6, tbm 262 (by decide +kernel) rfl, tbm 263 (by decide +kernel) rfl, tbm 44 (by decide +kernel) rfl, tyX6_ok, fun j hj => by rcases (show j = 0 ∨ j = 1 ∨ j = 2 by omega) with rfl | rfl | rfl <;> rfl⟩
set_option maxRecDepth 100000 in
theorem nwX11_33 : NW RX11 33 10 2 [.null, .int (iI 0)] := ⟨_, _, tyX10, rfl, tb_in10, tbm 279 (by decide +kernel) rfl, tbm 280 (by decide +kernel) rfl, tbm 45 (by decide +kernel) rfl, tyX10_ok, fun j hj => by rcases (show j = 0 ∨ j = 1 by omega) with rfl | rfl <;> rfl⟩
set_option maxRecDepth 100000 in
theorem nwX11_40 : NW RX11 40 7 7 [.null, .null, .null, .int (iI 0), .int (iI 0), .int (iI 0), .int (iI 0)] := ⟨_, _, tyX7, rfl, tb_in7, tbm 295 (by decide +kernel) rfl, tbm 296 (by decide +kernel) rfl, tbm 46 (by decide +kernel) rfl, tyX7_ok, fun j hj => by rcases (show j = 0 ∨ j = 1 ∨ j = 2 ∨ j = 3 ∨ j = 4 ∨ j = 5 ∨ j = 6 by omega) with rfl | rfl | rfl | rfl | rfl | rfl | rfl <;> rfl⟩
set_option maxRecDepth 100000 in
theorem nwL_10 : NW RL 10 12 12 [.null, .null, .int (iI 0), .null, .null, .int (iI 0), .int (iI 0), .int (iI 0), .null, .int (iI 0), .null, .int (iI 0)] := ⟨_, _, tyX12, rfl, tb_in12, tbm 689 (by decide +kernel) rfl, tbm 690 (by decide +kernel) rfl, tbm 47 (by decide +kernel) rfl, tyX12_ok, fun j hj => by rcases (show j = 0 ∨ j = 1 ∨ j = 2 ∨ j = 3 ∨ j = 4 ∨ j = 5 ∨ j = 6 ∨ j = 7 ∨ j = 8 ∨ j = 9 ∨ j = 10 ∨ j = 11 by omega) with rfl | rfl | rfl | rfl | rfl | rfl | rfl | rfl | rfl | rfl | rfl | rfl <;> rfl⟩
set_option maxRecDepth 100000 in
theorem oiX11_1 : Cond.methodLink RX11 1 Lib.objectInit ∈ TB := tbm 53 (by decide +kernel) rfl
set_option maxRecDepth 100000 in
theorem oiX9_3 : Cond.methodLink RX9 3 Lib.objectInit ∈ TB := tbm 61 (by decide +kernel) rfl
set_option maxRecDepth 100000 in
theorem oiX8_3 : Cond.methodLink RX8 3 Lib.objectInit ∈ TB := tbm 67 (by decide +kernel) rfl
set_option maxRecDepth 100000 in
theorem oiX2_1 : Cond.methodLink RX2 1 Lib.objectInit ∈ TB := tbm 91 (by decide +kernel) rfl
set_option maxRecDepth 100000 in
theorem oiX0_3 : Cond.methodLink RX0 3 Lib.objectInit ∈ TB := tbm 106 (by decide +kernel) rfl
set_option maxRecDepth 100000 in
theorem oiX1_3 : Cond.methodLink RX1 3 Lib.objectInit ∈ TB := tbm 139 (by decide +kernel) rfl
set_option maxRecDepth 100000 in
theorem oiX3_3 : Cond.methodLink RX3 3 Lib.objectInit ∈ TB := tbm 157 (by decide +kernel) rfl
set_option maxRecDepth 100000 in
theorem oiX5_3 : Cond.methodLink RX5 3 Lib.objectInit ∈ TB := tbm 176 (by decide +kernel) rfl
set_option maxRecDepth 100000 in
theorem acX11_267 : Cond.methodLink RX11 267 arraycopyName ∈ TB := tbm 201 (by decide +kernel) rfl
set_option maxRecDepth 100000 in
theorem oiX4_3 : Cond.methodLink RX4 3 Lib.objectInit ∈ TB := tbm 250 (by decide +kernel) rfl
set_option maxRecDepth 100000 in
theorem oiX6_3 : Cond.methodLink RX6 3 Lib.objectInit ∈ TB := tbm 267 (by decide +kernel) rfl
set_option maxRecDepth 100000 in
theorem oiX10_3 : Cond.methodLink RX10 3 Lib.objectInit ∈ TB := tbm 284 (by decide +kernel) rfl
set_option maxRecDepth 100000 in
theorem oiX7_3 : Cond.methodLink RX7 3 Lib.objectInit ∈ TB := tbm 300 (by decide +kernel) rfl
set_option maxRecDepth 100000 in
theorem acX5_32 : Cond.methodLink RX5 32 arraycopyName ∈ TB := tbm 477 (by decide +kernel) rfl
set_option maxRecDepth 100000 in
theorem oiX12_1 : Cond.methodLink RX12 1 Lib.objectInit ∈ TB := tbm 694 (by decide +kernel) rfl
set_option maxRecDepth 100000 in
theorem ac_n : Cond.native arraycopyName ∈ TB := tbm 203 (by decide +kernel) rfl
set_option maxRecDepth 100000 in
theorem ac_s : Cond.static arraycopyName ∈ TB := tbm 202 (by decide +kernel) rfl
set_option maxRecDepth 100000 in
theorem ac_i : Cond.initialized "java/lang/System" ∈ TB := tbm 42 (by decide +kernel) rfl
set_option maxRecDepth 100000 in
theorem oi_i : Cond.instanceMethod Lib.objectInit ∈ TB := tbm 54 (by decide +kernel) rfl
set_option maxRecDepth 100000 in
theorem oi_c : Cond.code Lib.objectInit ⟨#[0xb1]⟩ 1 none ∈ TB := tbm 55 (by decide +kernel) rfl
set_option maxRecDepth 100000 in
theorem aw_int : Cond.arrayClass .int ∈ TB := tbm 85 (by decide +kernel) rfl
set_option maxRecDepth 100000 in
theorem aw_char : Cond.arrayClass .char ∈ TB := tbm 294 (by decide +kernel) rfl
set_option maxRecDepth 100000 in
theorem aw_boolean : Cond.arrayClass .boolean ∈ TB := tbm 278 (by decide +kernel) rfl
set_option maxRecDepth 100000 in
theorem gnX1_9 : Cond.fieldLinkNest RX1 9 RX11 "FIRST_VALUES" "[I" "RainRecorder" ∈ TN := tnm 140 (by decide +kernel) rfl
set_option maxRecDepth 100000 in
theorem gnX9_57 : Cond.fieldLinkNest RX9 57 RX11 "FIRST_VALUES" "[I" "RainRecorder" ∈ TN := tnm 194 (by decide +kernel) rfl
end
section
theorem iI_nI (n : Nat) : iI (n : Int) = nI n := Int32.ofInt_eq_ofNat (n := n)
theorem iI_div {a b : Int} (h : 0 ≤ a ∧ a < 2147483648 ∧ 0 < b ∧ b < 2147483648) : ¬ iI b = 0 ∧ iI a / iI b = iI (a / b) := by
  obtain ⟨n, rfl⟩ := Int.eq_ofNat_of_zero_le h.1
  obtain ⟨d, rfl⟩ := Int.eq_ofNat_of_zero_le (by omega : 0 ≤ b)
  refine ⟨fun e => ?_, ?_⟩
  · rw [iI_0, iI_eq ⟨by omega, by omega⟩ ⟨by omega, by omega⟩] at e
    omega
  · rw [show ((n : Int) / (d : Int)) = ((n / d : Nat) : Int) from (Int.natCast_ediv n d).symm, iI_nI, iI_nI, iI_nI]
    exact pk_div (by omega) (by omega) (by omega)
theorem iI_xor {a b : Int} (h : 0 ≤ a ∧ a < 2147483648 ∧ 0 ≤ b ∧ b < 2147483648) : ∃ k : Int, 0 ≤ k ∧ k < 2147483648 ∧ iI a ^^^ iI b = iI k := by
  obtain ⟨n, rfl⟩ := Int.eq_ofNat_of_zero_le h.1
  obtain ⟨d, rfl⟩ := Int.eq_ofNat_of_zero_le (by omega : 0 ≤ b)
  have e : nI n ^^^ nI d = nI (n ^^^ d) := by
    apply Int32.toBitVec_inj.mp
    simp [nI, Int32.toBitVec_xor]
  have h3 : n ^^^ d < 2 ^ 31 := Nat.xor_lt_two_pow (by omega) (by omega)
  exact ⟨((n ^^^ d : Nat) : Int), by omega, by omega, by rw [iI_nI, iI_nI, iI_nI, e]⟩
section Rows3
variable {X : Fx} {E : Wd} {z : Nat × Nat × Nat} {pc : Nat} {ls ls' : List (Option Value)} {st : List Value} {cc : ByteArray} {ow : String}
theorem v_idivI (cx : Cx X cc ow) {a b : Int} (h : 0 ≤ a ∧ a < 2147483648 ∧ 0 < b ∧ b < 2147483648) (hd : decode cc pc = .ok (.idiv, 1)) (k : V X E z (pc + 1) ls (.int (iI (a / b)) :: st)) : V X E z pc ls (.int (iI b) :: .int (iI a) :: st) :=
  v_idiv cx (iI_div h).1 hd (by rw [(iI_div h).2]; exact k)
theorem v_ixorI (cx : Cx X cc ow) {a b : Int} (h : 0 ≤ a ∧ a < 2147483648 ∧ 0 ≤ b ∧ b < 2147483648) (hd : decode cc pc = .ok (.ixor, 1)) (k : ∀ x : Int, 0 ≤ x → x < 2147483648 → V X E z (pc + 1) ls (.int (iI x) :: st)) : V X E z pc ls (.int (iI b) :: .int (iI a) :: st) := by
  obtain ⟨x, h1, h2, h3⟩ := iI_xor h
  exact (k x h1 h2).st (fun H locs L hl k => lv_ixor cx.1 cx.2.1 hd (by rw [h3]; exact k))
theorem v_getstaticN (cx : Cx X cc ow) {idx : Nat} (i : Nat) (hi : i < 3) {host : String} (hl : Cond.fieldLinkNest ow idx RX11 (tbN i) "[I" host ∈ TN) (hd : decode cc pc = .ok (.getstatic idx, 3)) (kk : V X E z (pc + 3) ls (.ref (gT (fG X) i) :: st)) : V X E z pc ls st := by
  intro H locs L h1
  exact va_getsN cx.1 cx.2.1 (cx.2.2.2.2.1.2.1 i hi).1 h1.2.2.1 cx.2.2.1 (va_Nw.use rfl (va_nwTN cx hl)) (fun _ h => h) hd (kk H locs L h1)
end Rows3
end
section
set_option maxRecDepth 100000 in
set_option maxHeartbeats 4000000 in
theorem c_isWithin (lc : Launch) (G : Gc) (E : Wd) (nh : Nat) {v a b : Int} (h : (-2147483648 ≤ v ∧ v < 2147483648) ∧ (-2147483648 ≤ a ∧ a < 2147483648) ∧ (-2147483648 ≤ b ∧ b < 2147483648)) : CI lc G 0 yX11_isWithin cX11_isWithin 3 .boolean [.int (iI v), .int (iI a), .int (iI b)] E nh 0 0 (fun r E' => ((r = 1 ∧ a ≤ v ∧ v ≤ b) ∨ (r = 0 ∧ (v < a ∨ b < v))) ∧ E' = E) := by
  refine CI.mk (by decide +kernel) rfl (Nat.le_of_ble_eq_true rfl) ?_
  intro X hG hL cx hR hI
  subst hG; subst hL
  show V X E (nh, 0, 0) 0 [some (.int (iI v)), some (.int (iI a)), some (.int (iI b))] []
  refine v_iload_n (pc := 0) cx rfl ga0 dX11_isWithin_0 ?_
  refine v_iload_n (pc := 1) cx rfl ga1 dX11_isWithin_1 ?_
  refine v_icmp_lt (pc := 2) cx 14 dX11_isWithin_2 rfl (by omega) (fun c2 => ?_) (fun c2 => ?_)
  · refine v_iconst (pc := 14) cx dX11_isWithin_14 ?_
    refine v_ireturn (pc := 15) cx hI rfl ?_ dX11_isWithin_15
    exact ⟨Or.inr ⟨rfl, Or.inl c2⟩, rfl⟩
  · refine v_iload_n (pc := 5) cx rfl ga0 dX11_isWithin_5 ?_
    refine v_iload_n (pc := 6) cx rfl ga2 dX11_isWithin_6 ?_
    refine v_icmp_gt (pc := 7) cx 14 dX11_isWithin_7 rfl (by omega) (fun c7 => ?_) (fun c7 => ?_)
    · refine v_iconst (pc := 14) cx dX11_isWithin_14 ?_
      refine v_ireturn (pc := 15) cx hI rfl ?_ dX11_isWithin_15
      exact ⟨Or.inr ⟨rfl, Or.inr c7⟩, rfl⟩
    · refine v_iconst (pc := 10) cx dX11_isWithin_10 ?_
      refine v_goto (pc := 11) cx 15 dX11_isWithin_11 rfl ?_
      refine v_ireturn (pc := 15) cx hI rfl ?_ dX11_isWithin_15
      exact ⟨Or.inl ⟨rfl, c2, c7⟩, rfl⟩
set_option maxRecDepth 100000 in
set_option maxHeartbeats 4000000 in
theorem c_min (lc : Launch) (G : Gc) (E : Wd) (nh : Nat) {a b : Int} (h : (-2147483648 ≤ a ∧ a < 2147483648) ∧ (-2147483648 ≤ b ∧ b < 2147483648)) : CI lc G 0 yJ9_min_7cf53 cJ9_min_7cf53 2 .int [.int (iI a), .int (iI b)] E nh 0 0 (fun r E' => r = min a b ∧ E' = E) := by
  refine CI.mk (by decide +kernel) rfl (Nat.le_of_ble_eq_true rfl) ?_
  intro X hG hL cx hR hI
  subst hG; subst hL
  show V X E (nh, 0, 0) 0 [some (.int (iI a)), some (.int (iI b))] []
  refine v_iload_n (pc := 0) cx rfl ga0 dJ9_min_7cf53_0 ?_
  refine v_iload_n (pc := 1) cx rfl ga1 dJ9_min_7cf53_1 ?_
  refine v_icmp_gt (pc := 2) cx 9 dJ9_min_7cf53_2 rfl (by omega) (fun c2 => ?_) (fun c2 => ?_)
  · refine v_iload_n (pc := 9) cx rfl ga1 dJ9_min_7cf53_9 ?_
    refine v_ireturn (pc := 10) cx hI rfl ?_ dJ9_min_7cf53_10
    exact ⟨by omega, rfl⟩
  · refine v_iload_n (pc := 5) cx rfl ga0 dJ9_min_7cf53_5 ?_
    refine v_goto (pc := 6) cx 10 dJ9_min_7cf53_6 rfl ?_
    refine v_ireturn (pc := 10) cx hI rfl ?_ dJ9_min_7cf53_10
    exact ⟨by omega, rfl⟩
set_option maxRecDepth 100000 in
set_option maxHeartbeats 4000000 in
theorem c_max (lc : Launch) (G : Gc) (E : Wd) (nh : Nat) {a b : Int} (h : (-2147483648 ≤ a ∧ a < 2147483648) ∧ (-2147483648 ≤ b ∧ b < 2147483648)) : CI lc G 0 yJ9_max_7cf53 cJ9_max_7cf53 2 .int [.int (iI a), .int (iI b)] E nh 0 0 (fun r E' => r = max a b ∧ E' = E) := by
  refine CI.mk (by decide +kernel) rfl (Nat.le_of_ble_eq_true rfl) ?_
  intro X hG hL cx hR hI
  subst hG; subst hL
  show V X E (nh, 0, 0) 0 [some (.int (iI a)), some (.int (iI b))] []
  refine v_iload_n (pc := 0) cx rfl ga0 dJ9_max_7cf53_0 ?_
  refine v_iload_n (pc := 1) cx rfl ga1 dJ9_max_7cf53_1 ?_
  refine v_icmp_lt (pc := 2) cx 9 dJ9_max_7cf53_2 rfl (by omega) (fun c2 => ?_) (fun c2 => ?_)
  · refine v_iload_n (pc := 9) cx rfl ga1 dJ9_max_7cf53_9 ?_
    refine v_ireturn (pc := 10) cx hI rfl ?_ dJ9_max_7cf53_10
    exact ⟨by omega, rfl⟩
  · refine v_iload_n (pc := 5) cx rfl ga0 dJ9_max_7cf53_5 ?_
    refine v_goto (pc := 6) cx 10 dJ9_max_7cf53_6 rfl ?_
    refine v_ireturn (pc := 10) cx hI rfl ?_ dJ9_max_7cf53_10
    exact ⟨by omega, rfl⟩
set_option maxRecDepth 100000 in
set_option maxHeartbeats 4000000 in
theorem c_floorDiv (lc : Launch) (G : Gc) (E : Wd) (nh : Nat) {a b : Int} (h : 0 ≤ a ∧ a < 2147483648 ∧ 0 < b ∧ b < 2147483648) : CI lc G 0 yJ9_floorDiv_7cf53 cJ9_floorDiv_7cf53 3 .int [.int (iI a), .int (iI b)] E nh 0 0 (fun r E' => r = a / b ∧ E' = E) := by
  refine CI.mk (by decide +kernel) rfl (Nat.le_of_ble_eq_true rfl) ?_
  intro X hG hL cx hR hI
  subst hG; subst hL
  show V X E (nh, 0, 0) 0 [some (.int (iI a)), some (.int (iI b)), none] []
  refine v_iload_n (pc := 0) cx rfl ga0 dJ9_floorDiv_7cf53_0 ?_
  refine v_iload_n (pc := 1) cx rfl ga1 dJ9_floorDiv_7cf53_1 ?_
  refine v_idivI (pc := 2) cx (by omega) dJ9_floorDiv_7cf53_2 ?_
  refine v_istore_n (pc := 3) cx rfl (sa2 rfl) dJ9_floorDiv_7cf53_3 ?_
  refine v_iload_n (pc := 4) cx rfl ga0 dJ9_floorDiv_7cf53_4 ?_
  refine v_iload_n (pc := 5) cx rfl ga1 dJ9_floorDiv_7cf53_5 ?_
  refine v_ixorI (pc := 6) cx (by omega) dJ9_floorDiv_7cf53_6 (fun x hx1 hx2 => ?_)
  refine v_if_ge (pc := 7) cx 21 dJ9_floorDiv_7cf53_7 rfl (by omega) (fun c7 => ?_) (fun c7 => ?_)
  · refine v_iload_n (pc := 21) cx rfl ga2 dJ9_floorDiv_7cf53_21 ?_
    refine v_ireturn (pc := 22) cx hI rfl ?_ dJ9_floorDiv_7cf53_22
    exact ⟨rfl, rfl⟩
  · omega
set_option maxRecDepth 100000 in
set_option maxHeartbeats 4000000 in
theorem c_quotient (lc : Launch) (G : Gc) (E : Wd) (nh : Nat) {a b : Int} (h : 0 ≤ a ∧ a < 2147483648 ∧ 0 < b ∧ b < 2147483648) : CI lc G 1 yX11_quotient cX11_quotient 2 .int [.int (iI a), .int (iI b)] E nh 0 0 (fun r E' => r = a / b ∧ E' = E) := by
  refine CI.mk (by decide +kernel) rfl (Nat.le_of_ble_eq_true rfl) ?_
  intro X hG hL cx hR hI
  subst hG; subst hL
  show V X E (nh, 0, 0) 0 [some (.int (iI a)), some (.int (iI b))] []
  refine v_iload_n (pc := 0) cx rfl ga1 dX11_quotient_0 ?_
  refine v_if_ne (pc := 1) cx 8 dX11_quotient_1 rfl (by omega) (fun c1 => ?_) (fun c1 => ?_)
  · refine v_iload_n (pc := 8) cx rfl ga0 dX11_quotient_8 ?_
    refine v_iload_n (pc := 9) cx rfl ga1 dX11_quotient_9 ?_
    refine v_callSI (pc := 10) cx hR (c_floorDiv _ _ _ _ h) mlX11_261 (by decide) rfl (Nat.le_of_ble_eq_true rfl) ⟨Nat.le_refl _, Nat.le_refl _⟩ dX11_quotient_10 (fun r E' hP => ?_)
    obtain ⟨rfl, rfl⟩ := hP
    refine v_ireturn (pc := 13) cx hI rfl ?_ dX11_quotient_13
    exact ⟨rfl, rfl⟩
  · omega
def Out (E E' : Wd) (a b : Nat) : Prop := ∀ j : Nat, (j < a ∨ b ≤ j) → E' j = E j

set_option maxRecDepth 100000 in
set_option maxHeartbeats 4000000 in
theorem c_copyRow (lc : Launch) (G : Gc) (E : Wd) (nh : Nat) {os od m : Nat} {f g : Nat → Int} (hm : m < 10000) (ha : E os = some (AI G m f)) (hb : E od = some (AI G m g)) : CV lc G 1 yX11_copyRow cX11_copyRow 2 [.ref (gb G + os), .ref (gb G + od)] E nh 0 0 (fun E' => E' od = some (AI G m (cpyI f g 0 0 m)) ∧ ∀ j, j ≠ od → E' j = E j) := by
  refine CV.mk (by decide +kernel) rfl (Nat.le_of_ble_eq_true rfl) ?_
  intro X hG hL cx hR hI hini
  subst hG; subst hL
  show V X E (nh, 0, 0) 0 [some (.ref (gb (fG X) + os)), some (.ref (gb (fG X) + od))] []
  refine v_aload_n (pc := 0) cx rfl ga0 dX11_copyRow_0 ?_
  refine v_iconst (pc := 1) cx dX11_copyRow_1 ?_
  refine v_aload_n (pc := 2) cx rfl ga1 dX11_copyRow_2 ?_
  refine v_iconst (pc := 3) cx dX11_copyRow_3 ?_
  refine v_aload_n (pc := 4) cx rfl ga0 dX11_copyRow_4 ?_
  refine v_alen (pc := 5) cx (by assumption) rfl dX11_copyRow_5 ?_
  refine v_aload_n (pc := 6) cx rfl ga1 dX11_copyRow_6 ?_
  refine v_alen (pc := 7) cx (by assumption) rfl dX11_copyRow_7 ?_
  refine v_callSI (pc := 8) cx hR (c_min _ _ _ _ ⟨⟨by omega, by omega⟩, ⟨by omega, by omega⟩⟩) mlX11_264 (by decide) rfl (Nat.le_of_ble_eq_true rfl) ⟨Nat.le_refl _, Nat.le_refl _⟩ dX11_copyRow_8 (fun r E' hP => ?_)
  obtain ⟨rfl, rfl⟩ := hP
  rw [show min (m : Int) (m : Int) = (m : Int) by omega]
  refine v_copy (pc := 11) cx 0 0 m hR (by decide) acX11_267 ac_n ac_s ac_i ha hb (by omega) (Nat.le_of_ble_eq_true rfl) dX11_copyRow_11 (fun E1 hE1 hF1 => ?_)
  refine v_return (pc := 14) cx hI ?_ dX11_copyRow_14
  exact ⟨hE1, hF1⟩
end
section
/-! the showers that are told ahead: raw rows, and the list that they hold -/
def rSh (G : Gc) (E : Wd) (o : Nat) (n : Int) (b l r : Nat → Int) : Prop :=
  E o = some (.inr (8, [.ref (gb G + (o + 1)), .ref (gb G + (o + 2)), .ref (gb G + (o + 3)), .int (iI n)])) ∧ E (o + 1) = some (AI G 12 b) ∧ E (o + 2) = some (AI G 12 l) ∧ E (o + 3) = some (AI G 12 r)
theorem rSh.out {G : Gc} {E E' : Wd} {o : Nat} {n : Int} {b l r : Nat → Int} {x y : Nat} (h : rSh G E o n b l r) (hE : Out E E' x y) (hxy : o + 4 ≤ x ∨ y ≤ o) : rSh G E' o n b l r :=
  ⟨(hE _ (by omega)).trans h.1, (hE _ (by omega)).trans h.2.1, (hE _ (by omega)).trans h.2.2.1, (hE _ (by omega)).trans h.2.2.2⟩
def rainTo (b l r : Nat → Int) (t : Int) : Nat → Int
  | 0 => 0
  | k + 1 => rainTo b l r t k + if b k ≤ t ∧ t < b k + l k then r k else 0
def insP (b : Nat → Int) (x : Int) : Nat → Nat
  | 0 => 0
  | k + 1 => if x < b k then insP b x k else k + 1
def insF (f : Nat → Int) (p m : Nat) (x : Int) : Nat → Int := fun j => if j < p then f j else if j = p then x else if j ≤ m then f (j - 1) else f j
def shF (f : Nat → Int) (q m : Nat) : Nat → Int := fun j => if q < j ∧ j ≤ m then f (j - 1) else f j
def delF (f : Nat → Int) (k i : Nat) : Nat → Int := fun j => if k ≤ j ∧ j + 1 < i then f (j + 1) else f j
def lst (b l r : Nat → Int) (m : Nat) : List (Int × Int × Int) := (List.range m).map (fun j => (b j, l j, r j))
theorem lst_ext {b l r b' l' r' : Nat → Int} {m : Nat} (h : ∀ j, j < m → b j = b' j ∧ l j = l' j ∧ r j = r' j) : lst b l r m = lst b' l' r' m := by
  apply List.map_congr_left
  intro j hj
  obtain ⟨h1, h2, h3⟩ := h j (List.mem_range.mp hj)
  rw [h1, h2, h3]
theorem lst_succ {b l r : Nat → Int} {m : Nat} : lst b l r (m + 1) = lst b l r m ++ [(b m, l m, r m)] := by
  simp [lst, List.range_succ]
theorem insP_le (b : Nat → Int) (x : Int) : ∀ m, insP b x m ≤ m := by
  intro m
  induction m with
  | zero => exact Nat.le_refl _
  | succ k ih => unfold insP; split <;> omega
set_option maxRecDepth 100000 in
set_option maxHeartbeats 4000000 in
theorem c_Sh_has (lc : Launch) (G : Gc) (E : Wd) (nh : Nat) {o : Nat} {m k : Int} {b l r : Nat → Int} (h : rSh G E o m b l r) (hm : 0 ≤ m ∧ m ≤ 12) (hk : -2147483648 ≤ k ∧ k < 2147483648) : CI lc G 0 yX8_has cX8_has 2 .boolean [.ref (gb G + o), .int (iI k)] E nh 0 0 (fun v E' => ((v = 1 ∧ 0 ≤ k ∧ k < m) ∨ (v = 0 ∧ (k < 0 ∨ m ≤ k))) ∧ E' = E) := by
  refine CI.mk (by decide +kernel) rfl (Nat.le_of_ble_eq_true rfl) ?_
  intro X hG hL cx hR hI
  subst hG; subst hL
  show V X E (nh, 0, 0) 0 [some (.ref (gb (fG X) + o)), some (.int (iI k))] []
  obtain ⟨h0, hb, hl, hr⟩ := h
  refine v_iload_n (pc := 0) cx rfl ga1 dX8_has_0 ?_
  refine v_if_lt (pc := 1) cx 16 dX8_has_1 rfl (by omega) (fun c1 => ?_) (fun c1 => ?_)
  · refine v_iconst (pc := 16) cx dX8_has_16 ?_
    refine v_ireturn (pc := 17) cx hI rfl ?_ dX8_has_17
    exact ⟨Or.inr ⟨rfl, Or.inl c1⟩, rfl⟩
  · refine v_iload_n (pc := 4) cx rfl ga1 dX8_has_4 ?_
    refine v_aload_n (pc := 5) cx rfl ga0 dX8_has_5 ?_
    refine v_getfield (pc := 6) cx flX8_25 (by assumption) gf3 dX8_has_6 ?_
    refine v_icmp_ge (pc := 9) cx 16 dX8_has_9 rfl (by omega) (fun c9 => ?_) (fun c9 => ?_)
    · refine v_iconst (pc := 16) cx dX8_has_16 ?_
      refine v_ireturn (pc := 17) cx hI rfl ?_ dX8_has_17
      exact ⟨Or.inr ⟨rfl, Or.inr c9⟩, rfl⟩
    · refine v_iconst (pc := 12) cx dX8_has_12 ?_
      refine v_goto (pc := 13) cx 17 dX8_has_13 rfl ?_
      refine v_ireturn (pc := 17) cx hI rfl ?_ dX8_has_17
      exact ⟨Or.inl ⟨rfl, c1, c9⟩, rfl⟩
set_option maxRecDepth 100000 in
set_option maxHeartbeats 4000000 in
theorem c_Sh_move (lc : Launch) (G : Gc) (E : Wd) (nh : Nat) {o jf jt : Nat} {m : Int} {b l r : Nat → Int} (h : rSh G E o m b l r) (hf : jf < 12) (ht : jt < 12) : CV lc G 0 yX8_move cX8_move 3 [.ref (gb G + o), .int (iI (jf : Int)), .int (iI (jt : Int))] E nh 0 0 (fun E' => rSh G E' o m (upI b jt (b jf)) (upI l jt (l jf)) (upI r jt (r jf)) ∧ Out E E' o (o + 4)) := by
  refine CV.mk (by decide +kernel) rfl (Nat.le_of_ble_eq_true rfl) ?_
  intro X hG hL cx hR hI hini
  subst hG; subst hL
  show V X E (nh, 0, 0) 0 [some (.ref (gb (fG X) + o)), some (.int (iI (jf : Int))), some (.int (iI (jt : Int)))] []
  obtain ⟨h0, hb, hl, hr⟩ := h
  have hFr : Out E E o (o + 4) := fun j hj => rfl
  refine v_aload_n (pc := 0) cx rfl ga0 dX8_move_0 ?_
  refine v_getfield (pc := 1) cx flX8_9 (by assumption) gf0 dX8_move_1 ?_
  refine v_iload_n (pc := 4) cx rfl ga2 dX8_move_4 ?_
  refine v_aload_n (pc := 5) cx rfl ga0 dX8_move_5 ?_
  refine v_getfield (pc := 6) cx flX8_9 (by assumption) gf0 dX8_move_6 ?_
  refine v_iload_n (pc := 9) cx rfl ga1 dX8_move_9 ?_
  refine v_iaload (pc := 10) cx (jf) (by assumption) (by omega) dX8_move_10 ?_
  refine v_iastore (pc := 11) cx (jt) hb (by omega) dX8_move_11 (fun E11 hE11 hF11 => ?_)
  replace h0 := (hF11 _ (by omega)).trans h0
  replace hb := hE11
  replace hl := (hF11 _ (by omega)).trans hl
  replace hr := (hF11 _ (by omega)).trans hr
  replace hFr := fun j hj => (hF11 j (by omega)).trans (hFr j hj)
  refine v_aload_n (pc := 12) cx rfl ga0 dX8_move_12 ?_
  refine v_getfield (pc := 13) cx flX8_15 (by assumption) gf1 dX8_move_13 ?_
  refine v_iload_n (pc := 16) cx rfl ga2 dX8_move_16 ?_
  refine v_aload_n (pc := 17) cx rfl ga0 dX8_move_17 ?_
  refine v_getfield (pc := 18) cx flX8_15 (by assumption) gf1 dX8_move_18 ?_
  refine v_iload_n (pc := 21) cx rfl ga1 dX8_move_21 ?_
  refine v_iaload (pc := 22) cx (jf) (by assumption) (by omega) dX8_move_22 ?_
  refine v_iastore (pc := 23) cx (jt) hl (by omega) dX8_move_23 (fun E23 hE23 hF23 => ?_)
  replace h0 := (hF23 _ (by omega)).trans h0
  replace hb := (hF23 _ (by omega)).trans hb
  replace hl := hE23
  replace hr := (hF23 _ (by omega)).trans hr
  replace hFr := fun j hj => (hF23 j (by omega)).trans (hFr j hj)
  refine v_aload_n (pc := 24) cx rfl ga0 dX8_move_24 ?_
  refine v_getfield (pc := 25) cx flX8_18 (by assumption) gf2 dX8_move_25 ?_
  refine v_iload_n (pc := 28) cx rfl ga2 dX8_move_28 ?_
  refine v_aload_n (pc := 29) cx rfl ga0 dX8_move_29 ?_
  refine v_getfield (pc := 30) cx flX8_18 (by assumption) gf2 dX8_move_30 ?_
  refine v_iload_n (pc := 33) cx rfl ga1 dX8_move_33 ?_
  refine v_iaload (pc := 34) cx (jf) (by assumption) (by omega) dX8_move_34 ?_
  refine v_iastore (pc := 35) cx (jt) hr (by omega) dX8_move_35 (fun E35 hE35 hF35 => ?_)
  replace h0 := (hF35 _ (by omega)).trans h0
  replace hb := (hF35 _ (by omega)).trans hb
  replace hl := (hF35 _ (by omega)).trans hl
  replace hr := hE35
  replace hFr := fun j hj => (hF35 j (by omega)).trans (hFr j hj)
  refine v_return (pc := 36) cx hI ?_ dX8_move_36
  exact ⟨⟨h0, hb, hl, hr⟩, hFr⟩
set_option maxRecDepth 100000 in
set_option maxHeartbeats 4000000 in
theorem c_Sh_rainIn (lc : Launch) (G : Gc) (E : Wd) (nh : Nat) {o m : Nat} {t : Int} {b l r : Nat → Int} (h : rSh G E o (m : Int) b l r) (hm : m ≤ 12) (ht : 0 ≤ t ∧ t < 1000000) (hr0 : ∀ j, j < m → (0 ≤ b j ∧ b j ≤ 5000) ∧ (1 ≤ l j ∧ l j ≤ 500) ∧ (1 ≤ r j ∧ r j ≤ 200)) : CI lc G 0 yX8_rainIn cX8_rainIn 4 .int [.ref (gb G + o), .int (iI t)] E nh 0 0 (fun v E' => v = rainTo b l r t m ∧ E' = E) := by
  refine CI.mk (by decide +kernel) rfl (Nat.le_of_ble_eq_true rfl) ?_
  intro X hG hL cx hR hI
  subst hG; subst hL
  show V X E (nh, 0, 0) 0 [some (.ref (gb (fG X) + o)), some (.int (iI t)), none, none] []
  obtain ⟨h0, hb, hl, hr⟩ := h
  have loop : ∀ (d k : Nat), k ≤ m → m - k < d → V X E (nh, 0, 0) 4 [some (.ref (gb (fG X) + o)), some (.int (iI t)), some (.int (iI (rainTo b l r t k))), some (.int (iI (k : Int)))] [] := by
    intro d
    induction d with
    | zero => intro k hk hd; omega
    | succ d ih =>
      intro k hk hd
      refine v_iload_n (pc := 4) cx rfl ga3 dX8_rainIn_4 ?_
      refine v_aload_n (pc := 5) cx rfl ga0 dX8_rainIn_5 ?_
      refine v_getfield (pc := 6) cx flX8_25 (by assumption) gf3 dX8_rainIn_6 ?_
      refine v_icmp_ge (pc := 9) cx 54 dX8_rainIn_9 rfl (by omega) (fun c9 => ?_) (fun c9 => ?_)
      · refine v_iload_n (pc := 54) cx rfl ga2 dX8_rainIn_54 ?_
        refine v_ireturn (pc := 55) cx hI rfl ?_ dX8_rainIn_55
        exact ⟨by rw [show k = m by omega], rfl⟩
      · have hk1 := hr0 k (by omega)
        refine v_aload_n (pc := 12) cx rfl ga0 dX8_rainIn_12 ?_
        refine v_getfield (pc := 13) cx flX8_9 (by assumption) gf0 dX8_rainIn_13 ?_
        refine v_iload_n (pc := 16) cx rfl ga3 dX8_rainIn_16 ?_
        refine v_iaload (pc := 17) cx (k) (by assumption) (by omega) dX8_rainIn_17 ?_
        refine v_iload_n (pc := 18) cx rfl ga1 dX8_rainIn_18 ?_
        refine v_icmp_gt (pc := 19) cx 48 dX8_rainIn_19 rfl (by omega) (fun c19 => ?_) (fun c19 => ?_)
        · refine v_iinc (pc := 48) cx ga3 (sa3 rfl) dX8_rainIn_48 ?_
          refine v_goto (pc := 51) cx 4 dX8_rainIn_51 rfl ?_
          have e : rainTo b l r t (k + 1) = rainTo b l r t k := by simp only [rainTo]; rw [if_neg (by omega)]; omega
          rw [← e]
          exact ih (k + 1) (by omega) (by omega)
        · refine v_iload_n (pc := 22) cx rfl ga1 dX8_rainIn_22 ?_
          refine v_aload_n (pc := 23) cx rfl ga0 dX8_rainIn_23 ?_
          refine v_getfield (pc := 24) cx flX8_9 (by assumption) gf0 dX8_rainIn_24 ?_
          refine v_iload_n (pc := 27) cx rfl ga3 dX8_rainIn_27 ?_
          refine v_iaload (pc := 28) cx (k) (by assumption) (by omega) dX8_rainIn_28 ?_
          refine v_aload_n (pc := 29) cx rfl ga0 dX8_rainIn_29 ?_
          refine v_getfield (pc := 30) cx flX8_15 (by assumption) gf1 dX8_rainIn_30 ?_
          refine v_iload_n (pc := 33) cx rfl ga3 dX8_rainIn_33 ?_
          refine v_iaload (pc := 34) cx (k) (by assumption) (by omega) dX8_rainIn_34 ?_
          refine v_iadd (pc := 35) cx dX8_rainIn_35 ?_
          refine v_icmp_ge (pc := 36) cx 48 dX8_rainIn_36 rfl (by omega) (fun c36 => ?_) (fun c36 => ?_)
          · refine v_iinc (pc := 48) cx ga3 (sa3 rfl) dX8_rainIn_48 ?_
            refine v_goto (pc := 51) cx 4 dX8_rainIn_51 rfl ?_
            have e : rainTo b l r t (k + 1) = rainTo b l r t k := by simp only [rainTo]; rw [if_neg (by omega)]; omega
            rw [← e]
            exact ih (k + 1) (by omega) (by omega)
          · refine v_iload_n (pc := 39) cx rfl ga2 dX8_rainIn_39 ?_
            refine v_aload_n (pc := 40) cx rfl ga0 dX8_rainIn_40 ?_
            refine v_getfield (pc := 41) cx flX8_18 (by assumption) gf2 dX8_rainIn_41 ?_
            refine v_iload_n (pc := 44) cx rfl ga3 dX8_rainIn_44 ?_
            refine v_iaload (pc := 45) cx (k) (by assumption) (by omega) dX8_rainIn_45 ?_
            refine v_iadd (pc := 46) cx dX8_rainIn_46 ?_
            refine v_istore_n (pc := 47) cx rfl (sa2 rfl) dX8_rainIn_47 ?_
            refine v_iinc (pc := 48) cx ga3 (sa3 rfl) dX8_rainIn_48 ?_
            refine v_goto (pc := 51) cx 4 dX8_rainIn_51 rfl ?_
            have e : rainTo b l r t (k + 1) = rainTo b l r t k + r k := by simp only [rainTo]; rw [if_pos (by omega)]
            rw [← e]
            exact ih (k + 1) (by omega) (by omega)
  refine v_iconst (pc := 0) cx dX8_rainIn_0 ?_
  refine v_istore_n (pc := 1) cx rfl (sa2 rfl) dX8_rainIn_1 ?_
  refine v_iconst (pc := 2) cx dX8_rainIn_2 ?_
  refine v_istore_n (pc := 3) cx rfl (sa3 rfl) dX8_rainIn_3 ?_
  exact loop (m + 1) 0 (Nat.zero_le _) (by omega)
end
section
theorem shF_step {f : Nat → Int} {q m : Nat} (h : 1 ≤ q ∧ q ≤ m) : upI (shF f q m) q (shF f q m (q - 1)) = shF f (q - 1) m := by
  funext j
  unfold upI shF
  by_cases h1 : j = q
  · rw [if_pos h1, if_neg (by omega), if_pos (by omega), h1]
  · rw [if_neg h1]
    by_cases h2 : q < j ∧ j ≤ m
    · rw [if_pos h2, if_pos (by omega)]
    · rw [if_neg h2, if_neg (by omega)]
theorem shF_m {f : Nat → Int} {m : Nat} : shF f m m = f := by
  funext j
  unfold shF
  rw [if_neg (by omega)]
theorem shF_ins {f : Nat → Int} {q m : Nat} {x : Int} (h : q ≤ m) : upI (shF f q m) q x = insF f q m x := by
  funext j
  unfold upI shF insF
  by_cases h1 : j = q
  · rw [if_pos h1, if_neg (by omega), if_pos h1]
  · rw [if_neg h1]
    by_cases h2 : j < q
    · rw [if_neg (by omega), if_pos h2]
    · rw [if_neg h2, if_neg h1]
      by_cases h3 : j ≤ m
      · rw [if_pos (by omega), if_pos h3]
      · rw [if_neg (by omega), if_neg h3]
theorem insP_lt {b : Nat → Int} {x : Int} {q : Nat} (h : 1 ≤ q) (hx : x < b (q - 1)) : insP b x q = insP b x (q - 1) := by
  obtain ⟨k, rfl⟩ : ∃ k, q = k + 1 := ⟨q - 1, by omega⟩
  simp only [Nat.add_sub_cancel] at hx ⊢
  simp only [insP]
  rw [if_pos hx]
theorem insP_ge {b : Nat → Int} {x : Int} {q : Nat} (hx : q = 0 ∨ b (q - 1) ≤ x) : insP b x q = q := by
  cases q with
  | zero => rfl
  | succ k =>
    simp only [Nat.add_sub_cancel] at hx
    simp only [insP]
    rw [if_neg (by omega)]
theorem delF_0 {f : Nat → Int} {k : Nat} : delF f k (k + 1) = f := by
  funext j
  unfold delF
  rw [if_neg (by omega)]
theorem delF_step {f : Nat → Int} {k i : Nat} (h : k + 1 ≤ i) : upI (delF f k i) (i - 1) (delF f k i i) = delF f k (i + 1) := by
  funext j
  unfold upI delF
  by_cases h1 : j = i - 1
  · rw [if_pos h1, if_neg (by omega), if_pos (by omega)]
    congr 1
    omega
  · rw [if_neg h1]
    by_cases h2 : k ≤ j ∧ j + 1 < i
    · rw [if_pos h2, if_pos (by omega)]
    · rw [if_neg h2, if_neg (by omega)]
set_option maxRecDepth 100000 in
set_option maxHeartbeats 4000000 in
theorem c_Sh_insert (lc : Launch) (G : Gc) (E : Wd) (nh : Nat) {o m : Nat} {x y w : Int} {b l r : Nat → Int} (h : rSh G E o (m : Int) b l r) (hm : m < 12) (hx : -2147483648 ≤ x ∧ x < 2147483648) (hr0 : ∀ j, j < m → -2147483648 ≤ b j ∧ b j < 2147483648) : CI lc G 1 yX8_insert cX8_insert 5 .int [.ref (gb G + o), .int (iI x), .int (iI y), .int (iI w)] E nh 0 0 (fun v E' => v = (insP b x m : Int) ∧ rSh G E' o ((m : Int) + 1) (insF b (insP b x m) m x) (insF l (insP b x m) m y) (insF r (insP b x m) m w) ∧ Out E E' o (o + 4)) := by
  refine CI.mk (by decide +kernel) rfl (Nat.le_of_ble_eq_true rfl) ?_
  intro X hG hL cx hR hI
  subst hG; subst hL
  show V X E (nh, 0, 0) 0 [some (.ref (gb (fG X) + o)), some (.int (iI x)), some (.int (iI y)), some (.int (iI w)), none] []
  have fin : ∀ (q : Nat) (E' : Wd), q ≤ m → rSh (fG X) E' o m (shF b q m) (shF l q m) (shF r q m) → Out E E' o (o + 4) → insP b x m = q → V X E' (nh, 0, 0) 52 [some (.ref (gb (fG X) + o)), some (.int (iI x)), some (.int (iI y)), some (.int (iI w)), some (.int (iI (q : Int)))] [] := by
    intro q E' hq h hFr hp
    obtain ⟨h0, hb, hl, hr⟩ := h
    refine v_aload_n (pc := 52) cx rfl ga0 dX8_insert_52 ?_
    refine v_getfield (pc := 53) cx flX8_9 (by assumption) gf0 dX8_insert_53 ?_
    refine v_iload (pc := 56) cx ga4 dX8_insert_56 ?_
    refine v_iload_n (pc := 58) cx rfl ga1 dX8_insert_58 ?_
    refine v_iastore (pc := 59) cx (q) hb (by omega) dX8_insert_59 (fun E59 hE59 hF59 => ?_)
    replace h0 := (hF59 _ (by omega)).trans h0
    replace hb := hE59
    replace hl := (hF59 _ (by omega)).trans hl
    replace hr := (hF59 _ (by omega)).trans hr
    replace hFr := fun j hj => (hF59 j (by omega)).trans (hFr j hj)
    refine v_aload_n (pc := 60) cx rfl ga0 dX8_insert_60 ?_
    refine v_getfield (pc := 61) cx flX8_15 (by assumption) gf1 dX8_insert_61 ?_
    refine v_iload (pc := 64) cx ga4 dX8_insert_64 ?_
    refine v_iload_n (pc := 66) cx rfl ga2 dX8_insert_66 ?_
    refine v_iastore (pc := 67) cx (q) hl (by omega) dX8_insert_67 (fun E67 hE67 hF67 => ?_)
    replace h0 := (hF67 _ (by omega)).trans h0
    replace hb := (hF67 _ (by omega)).trans hb
    replace hl := hE67
    replace hr := (hF67 _ (by omega)).trans hr
    replace hFr := fun j hj => (hF67 j (by omega)).trans (hFr j hj)
    refine v_aload_n (pc := 68) cx rfl ga0 dX8_insert_68 ?_
    refine v_getfield (pc := 69) cx flX8_18 (by assumption) gf2 dX8_insert_69 ?_
    refine v_iload (pc := 72) cx ga4 dX8_insert_72 ?_
    refine v_iload_n (pc := 74) cx rfl ga3 dX8_insert_74 ?_
    refine v_iastore (pc := 75) cx (q) hr (by omega) dX8_insert_75 (fun E75 hE75 hF75 => ?_)
    replace h0 := (hF75 _ (by omega)).trans h0
    replace hb := (hF75 _ (by omega)).trans hb
    replace hl := (hF75 _ (by omega)).trans hl
    replace hr := hE75
    replace hFr := fun j hj => (hF75 j (by omega)).trans (hFr j hj)
    refine v_aload_n (pc := 76) cx rfl ga0 dX8_insert_76 ?_
    refine v_dup (pc := 77) cx rfl dX8_insert_77 ?_
    refine v_getfield (pc := 78) cx flX8_25 (by assumption) gf3 dX8_insert_78 ?_
    refine v_iconst (pc := 81) cx dX8_insert_81 ?_
    refine v_iadd (pc := 82) cx dX8_insert_82 ?_
    refine v_putfield (pc := 83) cx fpX8_25 h0 ⟨rfl, rfl⟩ pf3 dX8_insert_83 (fun E83 hE83 hF83 => ?_)
    replace h0 := hE83
    replace hb := (hF83 _ (by omega)).trans hb
    replace hl := (hF83 _ (by omega)).trans hl
    replace hr := (hF83 _ (by omega)).trans hr
    replace hFr := fun j hj => (hF83 j (by omega)).trans (hFr j hj)
    refine v_iload (pc := 86) cx ga4 dX8_insert_86 ?_
    refine v_ireturn (pc := 88) cx hI rfl ?_ dX8_insert_88
    rw [shF_ins hq] at hb hl hr
    rw [hp]
    exact ⟨rfl, ⟨h0, hb, hl, hr⟩, hFr⟩
  have loop : ∀ (d q : Nat) (E' : Wd), q ≤ m → q < d → rSh (fG X) E' o m (shF b q m) (shF l q m) (shF r q m) → Out E E' o (o + 4) → insP b x m = insP b x q → V X E' (nh, 0, 0) 18 [some (.ref (gb (fG X) + o)), some (.int (iI x)), some (.int (iI y)), some (.int (iI w)), some (.int (iI (q : Int)))] [] := by
    intro d
    induction d with
    | zero => intro q E' hq hd; omega
    | succ d ih =>
      intro q E' hq hd h hFr hp
      obtain ⟨h0, hb, hl, hr⟩ := id h
      refine v_iload (pc := 18) cx ga4 dX8_insert_18 ?_
      refine v_if_le (pc := 20) cx 52 dX8_insert_20 rfl (by omega) (fun c20 => ?_) (fun c20 => ?_)
      · exact fin q E' hq h hFr (hp.trans (insP_ge (Or.inl (by omega))))
      · have e1 : shF b q m (q - 1) = b (q - 1) := by unfold shF; rw [if_neg (by omega)]
        have hk := hr0 (q - 1) (by omega)
        refine v_aload_n (pc := 23) cx rfl ga0 dX8_insert_23 ?_
        refine v_getfield (pc := 24) cx flX8_9 (by assumption) gf0 dX8_insert_24 ?_
        refine v_iload (pc := 27) cx ga4 dX8_insert_27 ?_
        refine v_iconst (pc := 29) cx dX8_insert_29 ?_
        refine v_isub (pc := 30) cx dX8_insert_30 ?_
        refine v_iaload (pc := 31) cx (q - 1) (by assumption) (by omega) dX8_insert_31 ?_
        refine v_iload_n (pc := 32) cx rfl ga1 dX8_insert_32 ?_
        refine v_icmp_le (pc := 33) cx 52 dX8_insert_33 rfl (by omega) (fun c33 => ?_) (fun c33 => ?_)
        · exact fin q E' hq h hFr (hp.trans (insP_ge (Or.inr (by omega))))
        · refine v_aload_n (pc := 36) cx rfl ga0 dX8_insert_36 ?_
          refine v_iload (pc := 37) cx ga4 dX8_insert_37 ?_
          refine v_iconst (pc := 39) cx dX8_insert_39 ?_
          refine v_isub (pc := 40) cx dX8_insert_40 ?_
          refine v_iload (pc := 41) cx ga4 dX8_insert_41 ?_
          rw [show ((q : Int) - 1) = ((q - 1 : Nat) : Int) by omega]
          refine v_callVV (pc := 43) cx hR (c_Sh_move _ _ _ _ h (by omega) (by omega)) mlX8_29 (by decide) (by assumption) rfl rfl rfl (Nat.le_of_ble_eq_true rfl) ⟨Nat.le_refl _, Nat.le_refl _⟩ dX8_insert_43 (fun E2 hP => ?_)
          obtain ⟨h2, hF2⟩ := hP
          rw [shF_step ⟨by omega, hq⟩, shF_step ⟨by omega, hq⟩, shF_step ⟨by omega, hq⟩] at h2
          refine v_iinc (pc := 46) cx ga4 (sa4 rfl) dX8_insert_46 ?_
          refine v_goto (pc := 49) cx 18 dX8_insert_49 rfl ?_
          rw [show ((q : Int) + -1) = ((q - 1 : Nat) : Int) by omega]
          exact ih (q - 1) E2 (by omega) (by omega) h2 (fun j hj => (hF2 j hj).trans (hFr j hj)) (hp.trans (insP_lt (by omega) (by omega)))
  obtain ⟨h0, hb, hl, hr⟩ := id h
  refine v_aload_n (pc := 0) cx rfl ga0 dX8_insert_0 ?_
  refine v_getfield (pc := 1) cx flX8_25 (by assumption) gf3 dX8_insert_1 ?_
  refine v_bipush (pc := 4) cx (by decide) dX8_insert_4 ?_
  refine v_icmp_lt (pc := 6) cx 12 dX8_insert_6 rfl (by omega) (fun c6 => ?_) (fun c6 => ?_)
  · refine v_aload_n (pc := 12) cx rfl ga0 dX8_insert_12 ?_
    refine v_getfield (pc := 13) cx flX8_25 (by assumption) gf3 dX8_insert_13 ?_
    refine v_istore (pc := 16) cx (sa4 rfl) dX8_insert_16 ?_
    exact loop (m + 1) m E (Nat.le_refl _) (by omega) (by rw [shF_m, shF_m, shF_m]; exact h) (fun _ _ => rfl) rfl
  · omega
set_option maxRecDepth 100000 in
set_option maxHeartbeats 4000000 in
theorem c_Sh_removeAt (lc : Launch) (G : Gc) (E : Wd) (nh : Nat) {o m k : Nat} {b l r : Nat → Int} (h : rSh G E o (m : Int) b l r) (hm : m ≤ 12) (hk : k < m) : CV lc G 1 yX8_removeAt cX8_removeAt 3 [.ref (gb G + o), .int (iI (k : Int))] E nh 0 0 (fun E' => rSh G E' o ((m : Int) - 1) (delF b k m) (delF l k m) (delF r k m) ∧ Out E E' o (o + 4)) := by
  refine CV.mk (by decide +kernel) rfl (Nat.le_of_ble_eq_true rfl) ?_
  intro X hG hL cx hR hI hini
  subst hG; subst hL
  show V X E (nh, 0, 0) 0 [some (.ref (gb (fG X) + o)), some (.int (iI (k : Int))), none] []
  have loop : ∀ (d i : Nat) (E' : Wd), k + 1 ≤ i → i ≤ m → m - i < d → rSh (fG X) E' o m (delF b k i) (delF l k i) (delF r k i) → Out E E' o (o + 4) → V X E' (nh, 0, 0) 13 [some (.ref (gb (fG X) + o)), some (.int (iI (k : Int))), some (.int (iI (i : Int)))] [] := by
    intro d
    induction d with
    | zero => intro q E' hq hd; omega
    | succ d ih =>
      intro i E' hi1 hi2 hd h hFr
      obtain ⟨h0, hb, hl, hr⟩ := id h
      refine v_iload_n (pc := 13) cx rfl ga2 dX8_removeAt_13 ?_
      refine v_aload_n (pc := 14) cx rfl ga0 dX8_removeAt_14 ?_
      refine v_getfield (pc := 15) cx flX8_25 (by assumption) gf3 dX8_removeAt_15 ?_
      refine v_icmp_ge (pc := 18) cx 35 dX8_removeAt_18 rfl (by omega) (fun c18 => ?_) (fun c18 => ?_)
      · have e : i = m := by omega
        subst e
        refine v_aload_n (pc := 35) cx rfl ga0 dX8_removeAt_35 ?_
        refine v_dup (pc := 36) cx rfl dX8_removeAt_36 ?_
        refine v_getfield (pc := 37) cx flX8_25 (by assumption) gf3 dX8_removeAt_37 ?_
        refine v_iconst (pc := 40) cx dX8_removeAt_40 ?_
        refine v_isub (pc := 41) cx dX8_removeAt_41 ?_
        refine v_putfield (pc := 42) cx fpX8_25 h0 ⟨rfl, rfl⟩ pf3 dX8_removeAt_42 (fun E42 hE42 hF42 => ?_)
        replace h0 := hE42
        replace hb := (hF42 _ (by omega)).trans hb
        replace hl := (hF42 _ (by omega)).trans hl
        replace hr := (hF42 _ (by omega)).trans hr
        replace hFr := fun j hj => (hF42 j (by omega)).trans (hFr j hj)
        refine v_return (pc := 45) cx hI ?_ dX8_removeAt_45
        exact ⟨⟨h0, hb, hl, hr⟩, hFr⟩
      · refine v_aload_n (pc := 21) cx rfl ga0 dX8_removeAt_21 ?_
        refine v_iload_n (pc := 22) cx rfl ga2 dX8_removeAt_22 ?_
        refine v_iload_n (pc := 23) cx rfl ga2 dX8_removeAt_23 ?_
        refine v_iconst (pc := 24) cx dX8_removeAt_24 ?_
        refine v_isub (pc := 25) cx dX8_removeAt_25 ?_
        rw [show ((i : Int) - 1) = ((i - 1 : Nat) : Int) by omega]
        refine v_callVV (pc := 26) cx hR (c_Sh_move _ _ _ _ h (by omega) (by omega)) mlX8_29 (by decide) (by assumption) rfl rfl rfl (Nat.le_of_ble_eq_true rfl) ⟨Nat.le_refl _, Nat.le_refl _⟩ dX8_removeAt_26 (fun E2 hP => ?_)
        obtain ⟨h2, hF2⟩ := hP
        rw [delF_step hi1, delF_step hi1, delF_step hi1] at h2
        refine v_iinc (pc := 29) cx ga2 (sa2 rfl) dX8_removeAt_29 ?_
        refine v_goto (pc := 32) cx 13 dX8_removeAt_32 rfl ?_
        exact ih (i + 1) E2 (by omega) (by omega) (by omega) h2 (fun j hj => (hF2 j hj).trans (hFr j hj))
  obtain ⟨h0, hb, hl, hr⟩ := id h
  refine v_aload_n (pc := 0) cx rfl ga0 dX8_removeAt_0 ?_
  refine v_iload_n (pc := 1) cx rfl ga1 dX8_removeAt_1 ?_
  refine v_callVI (pc := 2) cx hR (c_Sh_has _ _ _ _ h (by omega) (by omega)) mlX8_33 (by decide) (by assumption) rfl rfl rfl (Nat.le_of_ble_eq_true rfl) ⟨Nat.le_refl _, Nat.le_refl _⟩ dX8_removeAt_2 (fun v E2 hP => ?_)
  obtain ⟨hv, rfl⟩ := hP
  refine v_if_ne (pc := 5) cx 9 dX8_removeAt_5 rfl (by omega) (fun c5 => ?_) (fun c5 => ?_)
  · refine v_iload_n (pc := 9) cx rfl ga1 dX8_removeAt_9 ?_
    refine v_iconst (pc := 10) cx dX8_removeAt_10 ?_
    refine v_iadd (pc := 11) cx dX8_removeAt_11 ?_
    refine v_istore_n (pc := 12) cx rfl (sa2 rfl) dX8_removeAt_12 ?_
    exact loop (m + 1) (k + 1) _ (Nat.le_refl _) (by omega) (by omega) (by rw [delF_0, delF_0, delF_0]; exact h) (fun _ _ => rfl)
  · omega
theorem lst_push {b l r : Nat → Int} {k : Nat} {x y w : Int} : lst (upI b k x) (upI l k y) (upI r k w) (k + 1) = lst b l r k ++ [(x, y, w)] := by
  rw [lst_succ, upI_s, upI_s, upI_s]
  congr 1
  exact lst_ext (fun j hj => ⟨upI_n (by omega), upI_n (by omega), upI_n (by omega)⟩)
set_option maxRecDepth 100000 in
set_option maxHeartbeats 4000000 in
theorem c_Sh_removeEnded (lc : Launch) (G : Gc) (E : Wd) (nh : Nat) {o m : Nat} {t : Int} {b l r : Nat → Int} (h : rSh G E o (m : Int) b l r) (hm : m ≤ 12) (ht : 0 ≤ t ∧ t < 1000000) (hr0 : ∀ j, j < m → (0 ≤ b j ∧ b j ≤ 5000) ∧ (1 ≤ l j ∧ l j ≤ 500)) : CV lc G 1 yX8_removeEnded cX8_removeEnded 4 [.ref (gb G + o), .int (iI t)] E nh 0 0 (fun E' => (∃ (m' : Nat) (b' l' r' : Nat → Int), rSh G E' o m' b' l' r' ∧ lst b' l' r' m' = (lst b l r m).filter (fun x => decide (t < x.1 + x.2.1)) ∧ m' ≤ m) ∧ Out E E' o (o + 4)) := by
  refine CV.mk (by decide +kernel) rfl (Nat.le_of_ble_eq_true rfl) ?_
  intro X hG hL cx hR hI hini
  subst hG; subst hL
  show V X E (nh, 0, 0) 0 [some (.ref (gb (fG X) + o)), some (.int (iI t)), none, none] []
  have loop : ∀ (d i k : Nat) (b' l' r' : Nat → Int) (E' : Wd), i ≤ m → k ≤ i → m - i < d → rSh (fG X) E' o m b' l' r' → lst b' l' r' k = (lst b l r i).filter (fun x => decide (t < x.1 + x.2.1)) → (∀ j, i ≤ j → b' j = b j ∧ l' j = l j ∧ r' j = r j) → Out E E' o (o + 4) → V X E' (nh, 0, 0) 4 [some (.ref (gb (fG X) + o)), some (.int (iI t)), some (.int (iI (k : Int))), some (.int (iI (i : Int)))] [] := by
    intro d
    induction d with
    | zero => intro i k b' l' r' E' hq hd; omega
    | succ d ih =>
      intro i k b' l' r' E' hi hk hd h hls hsame hFr
      obtain ⟨h0, hb, hl, hr⟩ := id h
      refine v_iload_n (pc := 4) cx rfl ga3 dX8_removeEnded_4 ?_
      refine v_aload_n (pc := 5) cx rfl ga0 dX8_removeEnded_5 ?_
      refine v_getfield (pc := 6) cx flX8_25 (by assumption) gf3 dX8_removeEnded_6 ?_
      refine v_icmp_ge (pc := 9) cx 44 dX8_removeEnded_9 rfl (by omega) (fun c9 => ?_) (fun c9 => ?_)
      · have e : i = m := by omega
        subst e
        refine v_aload_n (pc := 44) cx rfl ga0 dX8_removeEnded_44 ?_
        refine v_iload_n (pc := 45) cx rfl ga2 dX8_removeEnded_45 ?_
        refine v_putfield (pc := 46) cx fpX8_25 h0 ⟨rfl, rfl⟩ pf3 dX8_removeEnded_46 (fun E46 hE46 hF46 => ?_)
        replace h0 := hE46
        replace hb := (hF46 _ (by omega)).trans hb
        replace hl := (hF46 _ (by omega)).trans hl
        replace hr := (hF46 _ (by omega)).trans hr
        replace hFr := fun j hj => (hF46 j (by omega)).trans (hFr j hj)
        refine v_return (pc := 49) cx hI ?_ dX8_removeEnded_49
        exact ⟨⟨k, b', l', r', ⟨h0, hb, hl, hr⟩, hls, hk⟩, hFr⟩
      · have hk1 := hr0 i (by omega)
        obtain ⟨s1, s2, s3⟩ := hsame i (Nat.le_refl _)
        refine v_aload_n (pc := 12) cx rfl ga0 dX8_removeEnded_12 ?_
        refine v_getfield (pc := 13) cx flX8_9 (by assumption) gf0 dX8_removeEnded_13 ?_
        refine v_iload_n (pc := 16) cx rfl ga3 dX8_removeEnded_16 ?_
        refine v_iaload (pc := 17) cx (i) (by assumption) (by omega) dX8_removeEnded_17 ?_
        refine v_aload_n (pc := 18) cx rfl ga0 dX8_removeEnded_18 ?_
        refine v_getfield (pc := 19) cx flX8_15 (by assumption) gf1 dX8_removeEnded_19 ?_
        refine v_iload_n (pc := 22) cx rfl ga3 dX8_removeEnded_22 ?_
        refine v_iaload (pc := 23) cx (i) (by assumption) (by omega) dX8_removeEnded_23 ?_
        refine v_iadd (pc := 24) cx dX8_removeEnded_24 ?_
        refine v_iload_n (pc := 25) cx rfl ga1 dX8_removeEnded_25 ?_
        refine v_icmp_le (pc := 26) cx 38 dX8_removeEnded_26 rfl (by omega) (fun c26 => ?_) (fun c26 => ?_)
        · refine v_iinc (pc := 38) cx ga3 (sa3 rfl) dX8_removeEnded_38 ?_
          refine v_goto (pc := 41) cx 4 dX8_removeEnded_41 rfl ?_
          refine ih (i + 1) k b' l' r' E' (by omega) (by omega) (by omega) h ?_ (fun j hj => hsame j (by omega)) hFr
          rw [lst_succ, List.filter_append, hls, List.filter_cons_of_neg (by simp; omega)]
          simp
        · refine v_aload_n (pc := 29) cx rfl ga0 dX8_removeEnded_29 ?_
          refine v_iload_n (pc := 30) cx rfl ga3 dX8_removeEnded_30 ?_
          refine v_iload_n (pc := 31) cx rfl ga2 dX8_removeEnded_31 ?_
          refine v_callVV (pc := 32) cx hR (c_Sh_move _ _ _ _ h (by omega) (by omega)) mlX8_29 (by decide) (by assumption) rfl rfl rfl (Nat.le_of_ble_eq_true rfl) ⟨Nat.le_refl _, Nat.le_refl _⟩ dX8_removeEnded_32 (fun E2 hP => ?_)
          obtain ⟨h2, hF2⟩ := hP
          refine v_iinc (pc := 35) cx ga2 (sa2 rfl) dX8_removeEnded_35 ?_
          refine v_iinc (pc := 38) cx ga3 (sa3 rfl) dX8_removeEnded_38 ?_
          refine v_goto (pc := 41) cx 4 dX8_removeEnded_41 rfl ?_
          refine ih (i + 1) (k + 1) _ _ _ E2 (by omega) (by omega) (by omega) h2 ?_ (fun j hj => ?_) (fun j hj => (hF2 j hj).trans (hFr j hj))
          · rw [lst_push, lst_succ, List.filter_append, hls, List.filter_cons_of_pos (by simp; omega), s1, s2, s3]
            simp
          · obtain ⟨u1, u2, u3⟩ := hsame j (by omega)
            rw [upI_n (by omega), upI_n (by omega), upI_n (by omega)]
            exact ⟨u1, u2, u3⟩
  refine v_iconst (pc := 0) cx dX8_removeEnded_0 ?_
  refine v_istore_n (pc := 1) cx rfl (sa2 rfl) dX8_removeEnded_1 ?_
  refine v_iconst (pc := 2) cx dX8_removeEnded_2 ?_
  refine v_istore_n (pc := 3) cx rfl (sa3 rfl) dX8_removeEnded_3 ?_
  exact loop (m + 1) 0 0 b l r E (by omega) (by omega) (by omega) h rfl (fun _ _ => ⟨rfl, rfl, rfl⟩) (fun _ _ => rfl)
set_option maxRecDepth 100000 in
set_option maxHeartbeats 4000000 in
theorem c_Sh_ticksToCome (lc : Launch) (G : Gc) (E : Wd) (nh : Nat) {o m k : Nat} {t : Int} {b l r : Nat → Int} (h : rSh G E o (m : Int) b l r) (hm : m ≤ 12) (hk : k < m) (ht : 0 ≤ t ∧ t < 1000000) (hr0 : ∀ j, j < m → (0 ≤ b j ∧ b j ≤ 5000) ∧ (1 ≤ l j ∧ l j ≤ 500)) : CI lc G 1 yX8_ticksToCome cX8_ticksToCome 3 .int [.ref (gb G + o), .int (iI (k : Int)), .int (iI t)] E nh 0 0 (fun v E' => v = b k + l k - max (b k) t ∧ E' = E) := by
  refine CI.mk (by decide +kernel) rfl (Nat.le_of_ble_eq_true rfl) ?_
  intro X hG hL cx hR hI
  subst hG; subst hL
  show V X E (nh, 0, 0) 0 [some (.ref (gb (fG X) + o)), some (.int (iI (k : Int))), some (.int (iI t))] []
  obtain ⟨h0, hb, hl, hr⟩ := id h
  have hk1 := hr0 k hk
  refine v_aload_n (pc := 0) cx rfl ga0 dX8_ticksToCome_0 ?_
  refine v_iload_n (pc := 1) cx rfl ga1 dX8_ticksToCome_1 ?_
  refine v_callVI (pc := 2) cx hR (c_Sh_has _ _ _ _ h (by omega) (by omega)) mlX8_33 (by decide) (by assumption) rfl rfl rfl (Nat.le_of_ble_eq_true rfl) ⟨Nat.le_refl _, Nat.le_refl _⟩ dX8_ticksToCome_2 (fun v E2 hP => ?_)
  obtain ⟨hv, rfl⟩ := hP
  refine v_if_ne (pc := 5) cx 10 dX8_ticksToCome_5 rfl (by omega) (fun c5 => ?_) (fun c5 => ?_)
  · refine v_aload_n (pc := 10) cx rfl ga0 dX8_ticksToCome_10 ?_
    refine v_getfield (pc := 11) cx flX8_9 (by assumption) gf0 dX8_ticksToCome_11 ?_
    refine v_iload_n (pc := 14) cx rfl ga1 dX8_ticksToCome_14 ?_
    refine v_iaload (pc := 15) cx (k) (by assumption) (by omega) dX8_ticksToCome_15 ?_
    refine v_aload_n (pc := 16) cx rfl ga0 dX8_ticksToCome_16 ?_
    refine v_getfield (pc := 17) cx flX8_15 (by assumption) gf1 dX8_ticksToCome_17 ?_
    refine v_iload_n (pc := 20) cx rfl ga1 dX8_ticksToCome_20 ?_
    refine v_iaload (pc := 21) cx (k) (by assumption) (by omega) dX8_ticksToCome_21 ?_
    refine v_iadd (pc := 22) cx dX8_ticksToCome_22 ?_
    refine v_aload_n (pc := 23) cx rfl ga0 dX8_ticksToCome_23 ?_
    refine v_getfield (pc := 24) cx flX8_9 (by assumption) gf0 dX8_ticksToCome_24 ?_
    refine v_iload_n (pc := 27) cx rfl ga1 dX8_ticksToCome_27 ?_
    refine v_iaload (pc := 28) cx (k) (by assumption) (by omega) dX8_ticksToCome_28 ?_
    refine v_iload_n (pc := 29) cx rfl ga2 dX8_ticksToCome_29 ?_
    refine v_callSI (pc := 30) cx hR (c_max _ _ _ _ (by omega)) mlX8_37 (by decide) rfl (Nat.le_of_ble_eq_true rfl) ⟨Nat.le_refl _, Nat.le_refl _⟩ dX8_ticksToCome_30 (fun v2 E3 hP => ?_)
    obtain ⟨rfl, rfl⟩ := hP
    refine v_isub (pc := 33) cx dX8_ticksToCome_33 ?_
    refine v_ireturn (pc := 34) cx hI rfl ?_ dX8_ticksToCome_34
    exact ⟨rfl, rfl⟩
  · omega
theorem cpyI_in {f g : Nat → Int} {m j : Nat} (h : j < m) : cpyI f g 0 0 m j = f j := by
  unfold cpyI
  rw [if_pos ⟨Nat.zero_le _, by omega⟩]
  congr 1
  omega
set_option maxRecDepth 100000 in
set_option maxHeartbeats 4000000 in
theorem c_Sh_copyFrom (lc : Launch) (G : Gc) (E : Wd) (nh : Nat) {o oo : Nat} {m m' : Int} {b l r b' l' r' : Nat → Int} (h : rSh G E o m b l r) (h' : rSh G E oo m' b' l' r') (hd : o + 4 ≤ oo ∨ oo + 4 ≤ o) : CV lc G 2 yX8_copyFrom cX8_copyFrom 2 [.ref (gb G + o), .ref (gb G + oo)] E nh 0 0 (fun E' => (∃ b2 l2 r2 : Nat → Int, rSh G E' o m' b2 l2 r2 ∧ ∀ j, j < 12 → b2 j = b' j ∧ l2 j = l' j ∧ r2 j = r' j) ∧ Out E E' o (o + 4)) := by
  refine CV.mk (by decide +kernel) rfl (Nat.le_of_ble_eq_true rfl) ?_
  intro X hG hL cx hR hI hini
  subst hG; subst hL
  show V X E (nh, 0, 0) 0 [some (.ref (gb (fG X) + o)), some (.ref (gb (fG X) + oo))] []
  obtain ⟨h0, hb, hl, hr⟩ := id h
  obtain ⟨g0, gb1, gl, gr⟩ := id h'
  have hFr : Out E E o (o + 4) := fun j hj => rfl
  refine v_aload_n (pc := 0) cx rfl ga1 dX8_copyFrom_0 ?_
  refine v_getfield (pc := 1) cx flX8_9 (by assumption) gf0 dX8_copyFrom_1 ?_
  refine v_aload_n (pc := 4) cx rfl ga0 dX8_copyFrom_4 ?_
  refine v_getfield (pc := 5) cx flX8_9 (by assumption) gf0 dX8_copyFrom_5 ?_
  refine v_callSV (pc := 8) cx hR (c_copyRow _ _ _ _ (by omega) gb1 hb) mlX8_21 (by decide) rfl (Nat.le_of_ble_eq_true rfl) ⟨Nat.le_refl _, Nat.le_refl _⟩ dX8_copyFrom_8 (fun E1 hP => ?_)
  obtain ⟨hb, hF⟩ := hP
  replace h0 := (hF _ (by omega)).trans h0
  replace hl := (hF _ (by omega)).trans hl
  replace hr := (hF _ (by omega)).trans hr
  replace g0 := (hF _ (by omega)).trans g0
  replace gb1 := (hF _ (by omega)).trans gb1
  replace gl := (hF _ (by omega)).trans gl
  replace gr := (hF _ (by omega)).trans gr
  replace hFr := fun j hj => (hF j (by omega)).trans (hFr j hj)
  refine v_aload_n (pc := 11) cx rfl ga1 dX8_copyFrom_11 ?_
  refine v_getfield (pc := 12) cx flX8_15 (by assumption) gf1 dX8_copyFrom_12 ?_
  refine v_aload_n (pc := 15) cx rfl ga0 dX8_copyFrom_15 ?_
  refine v_getfield (pc := 16) cx flX8_15 (by assumption) gf1 dX8_copyFrom_16 ?_
  refine v_callSV (pc := 19) cx hR (c_copyRow _ _ _ _ (by omega) gl hl) mlX8_21 (by decide) rfl (Nat.le_of_ble_eq_true rfl) ⟨Nat.le_refl _, Nat.le_refl _⟩ dX8_copyFrom_19 (fun E1 hP => ?_)
  obtain ⟨hl, hF⟩ := hP
  replace h0 := (hF _ (by omega)).trans h0
  replace hb := (hF _ (by omega)).trans hb
  replace hr := (hF _ (by omega)).trans hr
  replace g0 := (hF _ (by omega)).trans g0
  replace gb1 := (hF _ (by omega)).trans gb1
  replace gl := (hF _ (by omega)).trans gl
  replace gr := (hF _ (by omega)).trans gr
  replace hFr := fun j hj => (hF j (by omega)).trans (hFr j hj)
  refine v_aload_n (pc := 22) cx rfl ga1 dX8_copyFrom_22 ?_
  refine v_getfield (pc := 23) cx flX8_18 (by assumption) gf2 dX8_copyFrom_23 ?_
  refine v_aload_n (pc := 26) cx rfl ga0 dX8_copyFrom_26 ?_
  refine v_getfield (pc := 27) cx flX8_18 (by assumption) gf2 dX8_copyFrom_27 ?_
  refine v_callSV (pc := 30) cx hR (c_copyRow _ _ _ _ (by omega) gr hr) mlX8_21 (by decide) rfl (Nat.le_of_ble_eq_true rfl) ⟨Nat.le_refl _, Nat.le_refl _⟩ dX8_copyFrom_30 (fun E1 hP => ?_)
  obtain ⟨hr, hF⟩ := hP
  replace h0 := (hF _ (by omega)).trans h0
  replace hb := (hF _ (by omega)).trans hb
  replace hl := (hF _ (by omega)).trans hl
  replace g0 := (hF _ (by omega)).trans g0
  replace gb1 := (hF _ (by omega)).trans gb1
  replace gl := (hF _ (by omega)).trans gl
  replace gr := (hF _ (by omega)).trans gr
  replace hFr := fun j hj => (hF j (by omega)).trans (hFr j hj)
  refine v_aload_n (pc := 33) cx rfl ga0 dX8_copyFrom_33 ?_
  refine v_aload_n (pc := 34) cx rfl ga1 dX8_copyFrom_34 ?_
  refine v_getfield (pc := 35) cx flX8_25 (by assumption) gf3 dX8_copyFrom_35 ?_
  refine v_putfield (pc := 38) cx fpX8_25 h0 ⟨rfl, rfl⟩ pf3 dX8_copyFrom_38 (fun E38 hE38 hF38 => ?_)
  replace h0 := hE38
  replace hb := (hF38 _ (by omega)).trans hb
  replace hl := (hF38 _ (by omega)).trans hl
  replace hr := (hF38 _ (by omega)).trans hr
  replace hFr := fun j hj => (hF38 j (by omega)).trans (hFr j hj)
  refine v_return (pc := 41) cx hI ?_ dX8_copyFrom_41
  exact ⟨⟨_, _, _, ⟨h0, hb, hl, hr⟩, fun j hj => ⟨cpyI_in hj, cpyI_in hj, cpyI_in hj⟩⟩, hFr⟩
end
section
/-! film, bucket, clock, gears -/
def fTaken (rain cap c : Int) : Int := min rain (max 0 (cap - c))
def fGone (rain cap c dg : Int) : Int := if rain = 0 then min (c + fTaken rain cap c) dg else 0
abbrev oFi (c d : Int) : va_E := .inr (2, [.int (iI c), .int (iI d)])
set_option maxRecDepth 100000 in
set_option maxHeartbeats 4000000 in
theorem c_Fi_passTick (lc : Launch) (G : Gc) (E : Wd) (nh : Nat) {o : Nat} {rain cap dg c d : Int} (h : E o = some (oFi c d)) (hr : (0 ≤ rain ∧ rain ≤ 2400) ∧ (0 ≤ cap ∧ cap ≤ 200) ∧ (0 ≤ dg ∧ dg ≤ 50) ∧ (0 ≤ c ∧ c ≤ 200)) : CI lc G 1 yX2_passTick cX2_passTick 6 .int [.ref (gb G + o), .int (iI rain), .int (iI cap), .int (iI dg)] E nh 0 0 (fun v E' => v = rain - fTaken rain cap c ∧ E' o = some (oFi (c + fTaken rain cap c - fGone rain cap c dg) (d + fGone rain cap c dg)) ∧ Out E E' o (o + 1)) := by
  refine CI.mk (by decide +kernel) rfl (Nat.le_of_ble_eq_true rfl) ?_
  intro X hG hL cx hR hI
  subst hG; subst hL
  show V X E (nh, 0, 0) 0 [some (.ref (gb (fG X) + o)), some (.int (iI rain)), some (.int (iI cap)), some (.int (iI dg)), none, none] []
  have h0 := h
  have hFr : Out E E o (o + 1) := fun j hj => rfl
  refine v_iload_n (pc := 0) cx rfl ga1 dX2_passTick_0 ?_
  refine v_iconst (pc := 1) cx dX2_passTick_1 ?_
  refine v_iload_n (pc := 2) cx rfl ga2 dX2_passTick_2 ?_
  refine v_aload_n (pc := 3) cx rfl ga0 dX2_passTick_3 ?_
  refine v_getfield (pc := 4) cx flX2_7 (by assumption) gf0 dX2_passTick_4 ?_
  refine v_isub (pc := 7) cx dX2_passTick_7 ?_
  refine v_callSI (pc := 8) cx hR (c_max _ _ _ _ (by omega)) mlX2_16 (by decide) rfl (Nat.le_of_ble_eq_true rfl) ⟨Nat.le_refl _, Nat.le_refl _⟩ dX2_passTick_8 (fun v2 E3 hP => ?_)
  obtain ⟨rfl, rfl⟩ := hP
  refine v_callSI (pc := 11) cx hR (c_min _ _ _ _ (by omega)) mlX2_22 (by decide) rfl (Nat.le_of_ble_eq_true rfl) ⟨Nat.le_refl _, Nat.le_refl _⟩ dX2_passTick_11 (fun v2 E3 hP => ?_)
  obtain ⟨rfl, rfl⟩ := hP
  refine v_istore (pc := 14) cx (sa4 rfl) dX2_passTick_14 ?_
  refine v_aload_n (pc := 16) cx rfl ga0 dX2_passTick_16 ?_
  refine v_dup (pc := 17) cx rfl dX2_passTick_17 ?_
  refine v_getfield (pc := 18) cx flX2_7 (by assumption) gf0 dX2_passTick_18 ?_
  refine v_iload (pc := 21) cx ga4 dX2_passTick_21 ?_
  refine v_iadd (pc := 23) cx dX2_passTick_23 ?_
  refine v_putfield (pc := 24) cx fpX2_7 h0 ⟨rfl, rfl⟩ pf0 dX2_passTick_24 (fun E24 hE24 hF24 => ?_)
  replace h0 := hE24
  replace hFr := fun j hj => (hF24 j (by omega)).trans (hFr j hj)
  refine v_iload_n (pc := 27) cx rfl ga1 dX2_passTick_27 ?_
  refine v_if_ne (pc := 28) cx 63 dX2_passTick_28 rfl (by omega) (fun c28 => ?_) (fun c28 => ?_)
  · refine v_iload_n (pc := 63) cx rfl ga1 dX2_passTick_63 ?_
    refine v_iload (pc := 64) cx ga4 dX2_passTick_64 ?_
    refine v_isub (pc := 66) cx dX2_passTick_66 ?_
    refine v_ireturn (pc := 67) cx hI rfl ?_ dX2_passTick_67
    have e : fGone rain cap c dg = 0 := by unfold fGone; rw [if_neg c28]
    rw [e, Int.sub_zero, Int.add_zero]
    exact ⟨rfl, h0, hFr⟩
  · refine v_aload_n (pc := 31) cx rfl ga0 dX2_passTick_31 ?_
    refine v_getfield (pc := 32) cx flX2_7 (by assumption) gf0 dX2_passTick_32 ?_
    refine v_iload_n (pc := 35) cx rfl ga3 dX2_passTick_35 ?_
    refine v_callSI (pc := 36) cx hR (c_min _ _ _ _ (by omega)) mlX2_22 (by decide) rfl (Nat.le_of_ble_eq_true rfl) ⟨Nat.le_refl _, Nat.le_refl _⟩ dX2_passTick_36 (fun v3 E4 hP => ?_)
    obtain ⟨rfl, rfl⟩ := hP
    refine v_istore (pc := 39) cx (sa5 rfl) dX2_passTick_39 ?_
    refine v_aload_n (pc := 41) cx rfl ga0 dX2_passTick_41 ?_
    refine v_dup (pc := 42) cx rfl dX2_passTick_42 ?_
    refine v_getfield (pc := 43) cx flX2_7 (by assumption) gf0 dX2_passTick_43 ?_
    refine v_iload (pc := 46) cx ga5 dX2_passTick_46 ?_
    refine v_isub (pc := 48) cx dX2_passTick_48 ?_
    refine v_putfield (pc := 49) cx fpX2_7 h0 ⟨rfl, rfl⟩ pf0 dX2_passTick_49 (fun E49 hE49 hF49 => ?_)
    replace h0 := hE49
    replace hFr := fun j hj => (hF49 j (by omega)).trans (hFr j hj)
    refine v_aload_n (pc := 52) cx rfl ga0 dX2_passTick_52 ?_
    refine v_dup (pc := 53) cx rfl dX2_passTick_53 ?_
    refine v_getfield (pc := 54) cx flX2_13 (by assumption) gf1 dX2_passTick_54 ?_
    refine v_iload (pc := 57) cx ga5 dX2_passTick_57 ?_
    refine v_iadd (pc := 59) cx dX2_passTick_59 ?_
    refine v_putfield (pc := 60) cx fpX2_13 h0 ⟨rfl, rfl⟩ pf1 dX2_passTick_60 (fun E60 hE60 hF60 => ?_)
    replace h0 := hE60
    replace hFr := fun j hj => (hF60 j (by omega)).trans (hFr j hj)
    refine v_iload_n (pc := 63) cx rfl ga1 dX2_passTick_63 ?_
    refine v_iload (pc := 64) cx ga4 dX2_passTick_64 ?_
    refine v_isub (pc := 66) cx dX2_passTick_66 ?_
    refine v_ireturn (pc := 67) cx hI rfl ?_ dX2_passTick_67
    have e : fGone rain cap c dg = min (c + fTaken rain cap c) dg := by unfold fGone; rw [if_pos c28]
    rw [e]
    exact ⟨rfl, h0, hFr⟩
set_option maxRecDepth 100000 in
set_option maxHeartbeats 4000000 in
theorem c_Fi_copyFrom (lc : Launch) (G : Gc) (E : Wd) (nh : Nat) {o oo : Nat} {c d c' d' : Int} (h : E o = some (oFi c d)) (h' : E oo = some (oFi c' d')) (hd : o ≠ oo) : CV lc G 0 yX2_copyFrom cX2_copyFrom 2 [.ref (gb G + o), .ref (gb G + oo)] E nh 0 0 (fun E' => E' o = some (oFi c' d') ∧ Out E E' o (o + 1)) := by
  refine CV.mk (by decide +kernel) rfl (Nat.le_of_ble_eq_true rfl) ?_
  intro X hG hL cx hR hI hini
  subst hG; subst hL
  show V X E (nh, 0, 0) 0 [some (.ref (gb (fG X) + o)), some (.ref (gb (fG X) + oo))] []
  have h0 := h
  have g0 := h'
  have hFr : Out E E o (o + 1) := fun j hj => rfl
  refine v_aload_n (pc := 0) cx rfl ga0 dX2_copyFrom_0 ?_
  refine v_aload_n (pc := 1) cx rfl ga1 dX2_copyFrom_1 ?_
  refine v_getfield (pc := 2) cx flX2_7 (by assumption) gf0 dX2_copyFrom_2 ?_
  refine v_putfield (pc := 5) cx fpX2_7 h0 ⟨rfl, rfl⟩ pf0 dX2_copyFrom_5 (fun E5 hE5 hF5 => ?_)
  replace h0 := hE5
  replace g0 := (hF5 _ (by omega)).trans g0
  replace hFr := fun j hj => (hF5 j (by omega)).trans (hFr j hj)
  refine v_aload_n (pc := 8) cx rfl ga0 dX2_copyFrom_8 ?_
  refine v_aload_n (pc := 9) cx rfl ga1 dX2_copyFrom_9 ?_
  refine v_getfield (pc := 10) cx flX2_13 (by assumption) gf1 dX2_copyFrom_10 ?_
  refine v_putfield (pc := 13) cx fpX2_13 h0 ⟨rfl, rfl⟩ pf1 dX2_copyFrom_13 (fun E13 hE13 hF13 => ?_)
  replace h0 := hE13
  replace g0 := (hF13 _ (by omega)).trans g0
  replace hFr := fun j hj => (hF13 j (by omega)).trans (hFr j hj)
  refine v_return (pc := 16) cx hI ?_ dX2_copyFrom_16
  exact ⟨h0, hFr⟩
abbrev BT : Type := Int × Int × Int × Int × Int × Int
abbrev oBk (B : BT) : va_E := .inr (0, [.int (iI B.1), .int (iI B.2.1), .int (iI B.2.2.1), .int (iI B.2.2.2.1), .int (iI B.2.2.2.2.1), .int (iI B.2.2.2.2.2)])
def bGone (c rain d dg : Int) : Int := if d ≠ 0 then min (c + rain) dg else 0
def bS (rain d cap tt dg : Int) (B : BT) : BT :=
  if 0 < B.2.1 then (B.1, B.2.1 - 1, B.2.2.1, B.2.2.2.1, B.2.2.2.2.1 + rain, B.2.2.2.2.2)
  else if cap ≤ B.1 + rain - bGone B.1 rain d dg then (0, tt, B.2.2.1 + cap, B.2.2.2.1 + (B.1 + rain - bGone B.1 rain d dg - cap), B.2.2.2.2.1, B.2.2.2.2.2 + bGone B.1 rain d dg)
  else (B.1 + rain - bGone B.1 rain d dg, B.2.1, B.2.2.1, B.2.2.2.1, B.2.2.2.2.1, B.2.2.2.2.2 + bGone B.1 rain d dg)
def bR (rain d cap dg : Int) (B : BT) : Int :=
  if 0 < B.2.1 then -1 else if cap ≤ B.1 + rain - bGone B.1 rain d dg then B.1 + rain - bGone B.1 rain d dg - cap else -1
set_option maxRecDepth 100000 in
set_option maxHeartbeats 4000000 in
theorem c_Bk_tip (lc : Launch) (G : Gc) (E : Wd) (nh : Nat) {o : Nat} {c tl ti ov lo dr cap tt : Int} (h : E o = some (oBk (c, tl, ti, ov, lo, dr))) : CI lc G 0 yX0_tip cX0_tip 4 .int [.ref (gb G + o), .int (iI cap), .int (iI tt)] E nh 0 0 (fun v E' => v = c - cap ∧ E' o = some (oBk (0, tt, ti + cap, ov + (c - cap), lo, dr)) ∧ Out E E' o (o + 1)) := by
  refine CI.mk (by decide +kernel) rfl (Nat.le_of_ble_eq_true rfl) ?_
  intro X hG hL cx hR hI
  subst hG; subst hL
  show V X E (nh, 0, 0) 0 [some (.ref (gb (fG X) + o)), some (.int (iI cap)), some (.int (iI tt)), none] []
  have h0 := h
  have hFr : Out E E o (o + 1) := fun j hj => rfl
  refine v_aload_n (pc := 0) cx rfl ga0 dX0_tip_0 ?_
  refine v_getfield (pc := 1) cx flX0_9 (by assumption) gf0 dX0_tip_1 ?_
  refine v_iload_n (pc := 4) cx rfl ga1 dX0_tip_4 ?_
  refine v_isub (pc := 5) cx dX0_tip_5 ?_
  refine v_istore_n (pc := 6) cx rfl (sa3 rfl) dX0_tip_6 ?_
  refine v_aload_n (pc := 7) cx rfl ga0 dX0_tip_7 ?_
  refine v_dup (pc := 8) cx rfl dX0_tip_8 ?_
  refine v_getfield (pc := 9) cx flX0_18 (by assumption) gf2 dX0_tip_9 ?_
  refine v_iload_n (pc := 12) cx rfl ga1 dX0_tip_12 ?_
  refine v_iadd (pc := 13) cx dX0_tip_13 ?_
  refine v_putfield (pc := 14) cx fpX0_18 h0 ⟨rfl, rfl⟩ pf2 dX0_tip_14 (fun E14 hE14 hF14 => ?_)
  replace h0 := hE14
  replace hFr := fun j hj => (hF14 j (by omega)).trans (hFr j hj)
  refine v_aload_n (pc := 17) cx rfl ga0 dX0_tip_17 ?_
  refine v_dup (pc := 18) cx rfl dX0_tip_18 ?_
  refine v_getfield (pc := 19) cx flX0_21 (by assumption) gf3 dX0_tip_19 ?_
  refine v_iload_n (pc := 22) cx rfl ga3 dX0_tip_22 ?_
  refine v_iadd (pc := 23) cx dX0_tip_23 ?_
  refine v_putfield (pc := 24) cx fpX0_21 h0 ⟨rfl, rfl⟩ pf3 dX0_tip_24 (fun E24 hE24 hF24 => ?_)
  replace h0 := hE24
  replace hFr := fun j hj => (hF24 j (by omega)).trans (hFr j hj)
  refine v_aload_n (pc := 27) cx rfl ga0 dX0_tip_27 ?_
  refine v_iconst (pc := 28) cx dX0_tip_28 ?_
  refine v_putfield (pc := 29) cx fpX0_9 h0 ⟨rfl, rfl⟩ pf0 dX0_tip_29 (fun E29 hE29 hF29 => ?_)
  replace h0 := hE29
  replace hFr := fun j hj => (hF29 j (by omega)).trans (hFr j hj)
  refine v_aload_n (pc := 32) cx rfl ga0 dX0_tip_32 ?_
  refine v_iload_n (pc := 33) cx rfl ga2 dX0_tip_33 ?_
  refine v_putfield (pc := 34) cx fpX0_15 h0 ⟨rfl, rfl⟩ pf1 dX0_tip_34 (fun E34 hE34 hF34 => ?_)
  replace h0 := hE34
  replace hFr := fun j hj => (hF34 j (by omega)).trans (hFr j hj)
  refine v_iload_n (pc := 37) cx rfl ga3 dX0_tip_37 ?_
  refine v_ireturn (pc := 38) cx hI rfl ?_ dX0_tip_38
  exact ⟨rfl, h0, hFr⟩
set_option maxRecDepth 100000 in
set_option maxHeartbeats 4000000 in
theorem c_Bk_passTick (lc : Launch) (G : Gc) (E : Wd) (nh : Nat) {o : Nat} {rain d cap tt dg : Int} {B : BT} (h : E o = some (oBk B)) (hr : (0 ≤ rain ∧ rain ≤ 2400) ∧ (d = 0 ∨ d = 1) ∧ (20 ≤ cap ∧ cap ≤ 500) ∧ (0 ≤ dg ∧ dg ≤ 50) ∧ (0 ≤ B.1 ∧ B.1 ≤ 100000000) ∧ (0 ≤ B.2.1 ∧ B.2.1 ≤ 20)) : CI lc G 1 yX0_passTick cX0_passTick 7 .int [.ref (gb G + o), .int (iI rain), .int (iI d), .int (iI cap), .int (iI tt), .int (iI dg)] E nh 0 0 (fun v E' => v = bR rain d cap dg B ∧ E' o = some (oBk (bS rain d cap tt dg B)) ∧ Out E E' o (o + 1)) := by
  refine CI.mk (by decide +kernel) rfl (Nat.le_of_ble_eq_true rfl) ?_
  intro X hG hL cx hR hI
  subst hG; subst hL
  show V X E (nh, 0, 0) 0 [some (.ref (gb (fG X) + o)), some (.int (iI rain)), some (.int (iI d)), some (.int (iI cap)), some (.int (iI tt)), some (.int (iI dg)), none] []
  obtain ⟨c, tl, ti, ov, lo, dr⟩ := B
  simp only at hr
  have h0 := h
  dsimp only [oBk] at h0
  have hFr : Out E E o (o + 1) := fun j hj => rfl
  have fin : ∀ (E' : Wd) (g : Int) (lw : Option Value), bGone c rain d dg = g → 0 ≤ g ∧ g ≤ c + rain → tl = 0 → E' o = some (oBk (c + rain - g, tl, ti, ov, lo, dr + g)) → Out E E' o (o + 1) → V X E' (nh, 0, 0) 76 [some (.ref (gb (fG X) + o)), some (.int (iI rain)), some (.int (iI d)), some (.int (iI cap)), some (.int (iI tt)), some (.int (iI dg)), lw] [] := by
    intro E' g lw hg hg2 htl h0 hFr
    have h00 := h0
    dsimp only [oBk] at h0
    refine v_aload_n (pc := 76) cx rfl ga0 dX0_passTick_76 ?_
    refine v_getfield (pc := 77) cx flX0_9 (by assumption) gf0 dX0_passTick_77 ?_
    refine v_iload_n (pc := 80) cx rfl ga3 dX0_passTick_80 ?_
    refine v_icmp_lt (pc := 81) cx 94 dX0_passTick_81 rfl (by omega) (fun c81 => ?_) (fun c81 => ?_)
    · refine v_iconst (pc := 94) cx dX0_passTick_94 ?_
      refine v_ireturn (pc := 95) cx hI rfl ?_ dX0_passTick_95
      unfold bR bS
      simp only
      rw [hg, if_neg (by omega), if_neg (by omega), if_neg (by omega), if_neg (by omega)]
      exact ⟨rfl, h0, hFr⟩
    · refine v_aload_n (pc := 84) cx rfl ga0 dX0_passTick_84 ?_
      refine v_iload_n (pc := 85) cx rfl ga3 dX0_passTick_85 ?_
      refine v_iload (pc := 86) cx ga4 dX0_passTick_86 ?_
      refine v_callVI (pc := 88) cx hR (c_Bk_tip _ _ _ _ h00) mlX0_36 (by decide) (by assumption) rfl rfl rfl (Nat.le_of_ble_eq_true rfl) ⟨Nat.le_refl _, Nat.le_refl _⟩ dX0_passTick_88 (fun v2 E3 hP => ?_)
      obtain ⟨rfl, h1, hF1⟩ := hP
      refine v_goto (pc := 91) cx 95 dX0_passTick_91 rfl ?_
      refine v_ireturn (pc := 95) cx hI rfl ?_ dX0_passTick_95
      unfold bR bS
      simp only
      rw [hg, if_neg (by omega), if_pos (by omega), if_neg (by omega), if_pos (by omega)]
      exact ⟨rfl, h1, fun j hj => (hF1 j hj).trans (hFr j hj)⟩
  refine v_aload_n (pc := 0) cx rfl ga0 dX0_passTick_0 ?_
  refine v_getfield (pc := 1) cx flX0_15 (by assumption) gf1 dX0_passTick_1 ?_
  refine v_if_le (pc := 4) cx 29 dX0_passTick_4 rfl (by omega) (fun c4 => ?_) (fun c4 => ?_)
  · refine v_aload_n (pc := 29) cx rfl ga0 dX0_passTick_29 ?_
    refine v_dup (pc := 30) cx rfl dX0_passTick_30 ?_
    refine v_getfield (pc := 31) cx flX0_9 (by assumption) gf0 dX0_passTick_31 ?_
    refine v_iload_n (pc := 34) cx rfl ga1 dX0_passTick_34 ?_
    refine v_iadd (pc := 35) cx dX0_passTick_35 ?_
    refine v_putfield (pc := 36) cx fpX0_9 h0 ⟨rfl, rfl⟩ pf0 dX0_passTick_36 (fun E36 hE36 hF36 => ?_)
    replace h0 := hE36
    replace hFr := fun j hj => (hF36 j (by omega)).trans (hFr j hj)
    refine v_iload_n (pc := 39) cx rfl ga2 dX0_passTick_39 ?_
    refine v_if_eq (pc := 40) cx 76 dX0_passTick_40 rfl (by omega) (fun c40 => ?_) (fun c40 => ?_)
    · refine fin _ 0 _ (by unfold bGone; rw [if_neg (by omega)]) (by omega) (by omega) ?_ hFr
      rw [Int.sub_zero, Int.add_zero]
      exact h0
    · refine v_aload_n (pc := 43) cx rfl ga0 dX0_passTick_43 ?_
      refine v_getfield (pc := 44) cx flX0_9 (by assumption) gf0 dX0_passTick_44 ?_
      refine v_iload (pc := 47) cx ga5 dX0_passTick_47 ?_
      refine v_callSI (pc := 49) cx hR (c_min _ _ _ _ (by omega)) mlX0_30 (by decide) rfl (Nat.le_of_ble_eq_true rfl) ⟨Nat.le_refl _, Nat.le_refl _⟩ dX0_passTick_49 (fun v3 E4 hP => ?_)
      obtain ⟨rfl, rfl⟩ := hP
      refine v_istore (pc := 52) cx (sa6 rfl) dX0_passTick_52 ?_
      refine v_aload_n (pc := 54) cx rfl ga0 dX0_passTick_54 ?_
      refine v_dup (pc := 55) cx rfl dX0_passTick_55 ?_
      refine v_getfield (pc := 56) cx flX0_9 (by assumption) gf0 dX0_passTick_56 ?_
      refine v_iload (pc := 59) cx ga6 dX0_passTick_59 ?_
      refine v_isub (pc := 61) cx dX0_passTick_61 ?_
      refine v_putfield (pc := 62) cx fpX0_9 h0 ⟨rfl, rfl⟩ pf0 dX0_passTick_62 (fun E62 hE62 hF62 => ?_)
      replace h0 := hE62
      replace hFr := fun j hj => (hF62 j (by omega)).trans (hFr j hj)
      refine v_aload_n (pc := 65) cx rfl ga0 dX0_passTick_65 ?_
      refine v_dup (pc := 66) cx rfl dX0_passTick_66 ?_
      refine v_getfield (pc := 67) cx flX0_27 (by assumption) gf5 dX0_passTick_67 ?_
      refine v_iload (pc := 70) cx ga6 dX0_passTick_70 ?_
      refine v_iadd (pc := 72) cx dX0_passTick_72 ?_
      refine v_putfield (pc := 73) cx fpX0_27 h0 ⟨rfl, rfl⟩ pf5 dX0_passTick_73 (fun E73 hE73 hF73 => ?_)
      replace h0 := hE73
      replace hFr := fun j hj => (hF73 j (by omega)).trans (hFr j hj)
      exact fin _ (min (c + rain) dg) _ (by unfold bGone; rw [if_pos c40]) (by omega) (by omega) h0 hFr
  · refine v_aload_n (pc := 7) cx rfl ga0 dX0_passTick_7 ?_
    refine v_dup (pc := 8) cx rfl dX0_passTick_8 ?_
    refine v_getfield (pc := 9) cx flX0_24 (by assumption) gf4 dX0_passTick_9 ?_
    refine v_iload_n (pc := 12) cx rfl ga1 dX0_passTick_12 ?_
    refine v_iadd (pc := 13) cx dX0_passTick_13 ?_
    refine v_putfield (pc := 14) cx fpX0_24 h0 ⟨rfl, rfl⟩ pf4 dX0_passTick_14 (fun E14 hE14 hF14 => ?_)
    replace h0 := hE14
    replace hFr := fun j hj => (hF14 j (by omega)).trans (hFr j hj)
    refine v_aload_n (pc := 17) cx rfl ga0 dX0_passTick_17 ?_
    refine v_dup (pc := 18) cx rfl dX0_passTick_18 ?_
    refine v_getfield (pc := 19) cx flX0_15 (by assumption) gf1 dX0_passTick_19 ?_
    refine v_iconst (pc := 22) cx dX0_passTick_22 ?_
    refine v_isub (pc := 23) cx dX0_passTick_23 ?_
    refine v_putfield (pc := 24) cx fpX0_15 h0 ⟨rfl, rfl⟩ pf1 dX0_passTick_24 (fun E24 hE24 hF24 => ?_)
    replace h0 := hE24
    replace hFr := fun j hj => (hF24 j (by omega)).trans (hFr j hj)
    refine v_iconst (pc := 27) cx dX0_passTick_27 ?_
    refine v_ireturn (pc := 28) cx hI rfl ?_ dX0_passTick_28
    unfold bR bS
    simp only
    rw [if_pos c4, if_pos c4]
    exact ⟨rfl, h0, hFr⟩
set_option maxRecDepth 100000 in
set_option maxHeartbeats 4000000 in
theorem c_Bk_copyFrom (lc : Launch) (G : Gc) (E : Wd) (nh : Nat) {o oo : Nat} {B B' : BT} (h : E o = some (oBk B)) (h' : E oo = some (oBk B')) (hd : o ≠ oo) : CV lc G 0 yX0_copyFrom cX0_copyFrom 2 [.ref (gb G + o), .ref (gb G + oo)] E nh 0 0 (fun E' => E' o = some (oBk B') ∧ Out E E' o (o + 1)) := by
  refine CV.mk (by decide +kernel) rfl (Nat.le_of_ble_eq_true rfl) ?_
  intro X hG hL cx hR hI hini
  subst hG; subst hL
  show V X E (nh, 0, 0) 0 [some (.ref (gb (fG X) + o)), some (.ref (gb (fG X) + oo))] []
  have h0 := h
  have g0 := h'
  have hFr : Out E E o (o + 1) := fun j hj => rfl
  refine v_aload_n (pc := 0) cx rfl ga0 dX0_copyFrom_0 ?_
  refine v_aload_n (pc := 1) cx rfl ga1 dX0_copyFrom_1 ?_
  refine v_getfield (pc := 2) cx flX0_9 (by assumption) gf0 dX0_copyFrom_2 ?_
  refine v_putfield (pc := 5) cx fpX0_9 h0 ⟨rfl, rfl⟩ pf0 dX0_copyFrom_5 (fun E5 hE5 hF5 => ?_)
  replace h0 := hE5
  replace g0 := (hF5 _ (by omega)).trans g0
  replace hFr := fun j hj => (hF5 j (by omega)).trans (hFr j hj)
  refine v_aload_n (pc := 8) cx rfl ga0 dX0_copyFrom_8 ?_
  refine v_aload_n (pc := 9) cx rfl ga1 dX0_copyFrom_9 ?_
  refine v_getfield (pc := 10) cx flX0_15 (by assumption) gf1 dX0_copyFrom_10 ?_
  refine v_putfield (pc := 13) cx fpX0_15 h0 ⟨rfl, rfl⟩ pf1 dX0_copyFrom_13 (fun E13 hE13 hF13 => ?_)
  replace h0 := hE13
  replace g0 := (hF13 _ (by omega)).trans g0
  replace hFr := fun j hj => (hF13 j (by omega)).trans (hFr j hj)
  refine v_aload_n (pc := 16) cx rfl ga0 dX0_copyFrom_16 ?_
  refine v_aload_n (pc := 17) cx rfl ga1 dX0_copyFrom_17 ?_
  refine v_getfield (pc := 18) cx flX0_18 (by assumption) gf2 dX0_copyFrom_18 ?_
  refine v_putfield (pc := 21) cx fpX0_18 h0 ⟨rfl, rfl⟩ pf2 dX0_copyFrom_21 (fun E21 hE21 hF21 => ?_)
  replace h0 := hE21
  replace g0 := (hF21 _ (by omega)).trans g0
  replace hFr := fun j hj => (hF21 j (by omega)).trans (hFr j hj)
  refine v_aload_n (pc := 24) cx rfl ga0 dX0_copyFrom_24 ?_
  refine v_aload_n (pc := 25) cx rfl ga1 dX0_copyFrom_25 ?_
  refine v_getfield (pc := 26) cx flX0_21 (by assumption) gf3 dX0_copyFrom_26 ?_
  refine v_putfield (pc := 29) cx fpX0_21 h0 ⟨rfl, rfl⟩ pf3 dX0_copyFrom_29 (fun E29 hE29 hF29 => ?_)
  replace h0 := hE29
  replace g0 := (hF29 _ (by omega)).trans g0
  replace hFr := fun j hj => (hF29 j (by omega)).trans (hFr j hj)
  refine v_aload_n (pc := 32) cx rfl ga0 dX0_copyFrom_32 ?_
  refine v_aload_n (pc := 33) cx rfl ga1 dX0_copyFrom_33 ?_
  refine v_getfield (pc := 34) cx flX0_24 (by assumption) gf4 dX0_copyFrom_34 ?_
  refine v_putfield (pc := 37) cx fpX0_24 h0 ⟨rfl, rfl⟩ pf4 dX0_copyFrom_37 (fun E37 hE37 hF37 => ?_)
  replace h0 := hE37
  replace g0 := (hF37 _ (by omega)).trans g0
  replace hFr := fun j hj => (hF37 j (by omega)).trans (hFr j hj)
  refine v_aload_n (pc := 40) cx rfl ga0 dX0_copyFrom_40 ?_
  refine v_aload_n (pc := 41) cx rfl ga1 dX0_copyFrom_41 ?_
  refine v_getfield (pc := 42) cx flX0_27 (by assumption) gf5 dX0_copyFrom_42 ?_
  refine v_putfield (pc := 45) cx fpX0_27 h0 ⟨rfl, rfl⟩ pf5 dX0_copyFrom_45 (fun E45 hE45 hF45 => ?_)
  replace h0 := hE45
  replace g0 := (hF45 _ (by omega)).trans g0
  replace hFr := fun j hj => (hF45 j (by omega)).trans (hFr j hj)
  refine v_return (pc := 48) cx hI ?_ dX0_copyFrom_48
  exact ⟨h0, hFr⟩
abbrev oCl (r c : Int) : va_E := .inr (1, [.int (iI r), .int (iI c)])
set_option maxRecDepth 100000 in
set_option maxHeartbeats 4000000 in
theorem c_Cl_passTick (lc : Launch) (G : Gc) (E : Wd) (nh : Nat) {o : Nat} {r c : Int} (h : E o = some (oCl r c)) (hr : 0 ≤ r ∧ r ≤ 2000) : CV lc G 0 yX1_passTick cX1_passTick 1 [.ref (gb G + o)] E nh 0 0 (fun E' => E' o = some (oCl (if 0 < r then r - 1 else r) (if 0 < r then c + 1 else c)) ∧ Out E E' o (o + 1)) := by
  refine CV.mk (by decide +kernel) rfl (Nat.le_of_ble_eq_true rfl) ?_
  intro X hG hL cx hR hI hini
  subst hG; subst hL
  show V X E (nh, 0, 0) 0 [some (.ref (gb (fG X) + o))] []
  have h0 := h
  have hFr : Out E E o (o + 1) := fun j hj => rfl
  refine v_aload_n (pc := 0) cx rfl ga0 dX1_passTick_0 ?_
  refine v_getfield (pc := 1) cx flX1_13 (by assumption) gf0 dX1_passTick_1 ?_
  refine v_if_le (pc := 4) cx 27 dX1_passTick_4 rfl (by omega) (fun c4 => ?_) (fun c4 => ?_)
  · refine v_return (pc := 27) cx hI ?_ dX1_passTick_27
    rw [if_neg (by omega), if_neg (by omega)]
    exact ⟨h0, hFr⟩
  · refine v_aload_n (pc := 7) cx rfl ga0 dX1_passTick_7 ?_
    refine v_dup (pc := 8) cx rfl dX1_passTick_8 ?_
    refine v_getfield (pc := 9) cx flX1_13 (by assumption) gf0 dX1_passTick_9 ?_
    refine v_iconst (pc := 12) cx dX1_passTick_12 ?_
    refine v_isub (pc := 13) cx dX1_passTick_13 ?_
    refine v_putfield (pc := 14) cx fpX1_13 h0 ⟨rfl, rfl⟩ pf0 dX1_passTick_14 (fun E14 hE14 hF14 => ?_)
    replace h0 := hE14
    replace hFr := fun j hj => (hF14 j (by omega)).trans (hFr j hj)
    refine v_aload_n (pc := 17) cx rfl ga0 dX1_passTick_17 ?_
    refine v_dup (pc := 18) cx rfl dX1_passTick_18 ?_
    refine v_getfield (pc := 19) cx flX1_19 (by assumption) gf1 dX1_passTick_19 ?_
    refine v_iconst (pc := 22) cx dX1_passTick_22 ?_
    refine v_iadd (pc := 23) cx dX1_passTick_23 ?_
    refine v_putfield (pc := 24) cx fpX1_19 h0 ⟨rfl, rfl⟩ pf1 dX1_passTick_24 (fun E24 hE24 hF24 => ?_)
    replace h0 := hE24
    replace hFr := fun j hj => (hF24 j (by omega)).trans (hFr j hj)
    refine v_return (pc := 27) cx hI ?_ dX1_passTick_27
    rw [if_pos c4, if_pos c4]
    exact ⟨h0, hFr⟩
set_option maxRecDepth 100000 in
set_option maxHeartbeats 4000000 in
theorem c_Cl_copyFrom (lc : Launch) (G : Gc) (E : Wd) (nh : Nat) {o oo : Nat} {c d c' d' : Int} (h : E o = some (oCl c d)) (h' : E oo = some (oCl c' d')) (hd : o ≠ oo) : CV lc G 0 yX1_copyFrom cX1_copyFrom 2 [.ref (gb G + o), .ref (gb G + oo)] E nh 0 0 (fun E' => E' o = some (oCl c' d') ∧ Out E E' o (o + 1)) := by
  refine CV.mk (by decide +kernel) rfl (Nat.le_of_ble_eq_true rfl) ?_
  intro X hG hL cx hR hI hini
  subst hG; subst hL
  show V X E (nh, 0, 0) 0 [some (.ref (gb (fG X) + o)), some (.ref (gb (fG X) + oo))] []
  have h0 := h
  have g0 := h'
  have hFr : Out E E o (o + 1) := fun j hj => rfl
  refine v_aload_n (pc := 0) cx rfl ga0 dX1_copyFrom_0 ?_
  refine v_aload_n (pc := 1) cx rfl ga1 dX1_copyFrom_1 ?_
  refine v_getfield (pc := 2) cx flX1_13 (by assumption) gf0 dX1_copyFrom_2 ?_
  refine v_putfield (pc := 5) cx fpX1_13 h0 ⟨rfl, rfl⟩ pf0 dX1_copyFrom_5 (fun E5 hE5 hF5 => ?_)
  replace h0 := hE5
  replace g0 := (hF5 _ (by omega)).trans g0
  replace hFr := fun j hj => (hF5 j (by omega)).trans (hFr j hj)
  refine v_aload_n (pc := 8) cx rfl ga0 dX1_copyFrom_8 ?_
  refine v_aload_n (pc := 9) cx rfl ga1 dX1_copyFrom_9 ?_
  refine v_getfield (pc := 10) cx flX1_19 (by assumption) gf1 dX1_copyFrom_10 ?_
  refine v_putfield (pc := 13) cx fpX1_19 h0 ⟨rfl, rfl⟩ pf1 dX1_copyFrom_13 (fun E13 hE13 hF13 => ?_)
  replace h0 := hE13
  replace g0 := (hF13 _ (by omega)).trans g0
  replace hFr := fun j hj => (hF13 j (by omega)).trans (hFr j hj)
  refine v_return (pc := 16) cx hI ?_ dX1_copyFrom_16
  exact ⟨h0, hFr⟩
def rGe (G : Gc) (E : Wd) (o : Nat) (n : Int) (f s : Nat → Int) : Prop :=
  E o = some (.inr (3, [.ref (gb G + (o + 1)), .ref (gb G + (o + 2)), .int (iI n)])) ∧ E (o + 1) = some (AI G 3 f) ∧ E (o + 2) = some (AI G 3 s)
theorem rGe.out {G : Gc} {E E' : Wd} {o : Nat} {n : Int} {f s : Nat → Int} {x y : Nat} (h : rGe G E o n f s) (hE : Out E E' x y) (hxy : o + 3 ≤ x ∨ y ≤ o) : rGe G E' o n f s :=
  ⟨(hE _ (by omega)).trans h.1, (hE _ (by omega)).trans h.2.1, (hE _ (by omega)).trans h.2.2⟩
set_option maxRecDepth 100000 in
set_option maxHeartbeats 4000000 in
theorem c_Ge_has (lc : Launch) (G : Gc) (E : Wd) (nh : Nat) {o : Nat} {m k : Int} {f s : Nat → Int} (h : rGe G E o m f s) (hm : 0 ≤ m ∧ m ≤ 3) (hk : -2147483648 ≤ k ∧ k < 2147483648) : CI lc G 0 yX3_has cX3_has 2 .boolean [.ref (gb G + o), .int (iI k)] E nh 0 0 (fun v E' => ((v = 1 ∧ 0 ≤ k ∧ k < m) ∨ (v = 0 ∧ (k < 0 ∨ m ≤ k))) ∧ E' = E) := by
  refine CI.mk (by decide +kernel) rfl (Nat.le_of_ble_eq_true rfl) ?_
  intro X hG hL cx hR hI
  subst hG; subst hL
  show V X E (nh, 0, 0) 0 [some (.ref (gb (fG X) + o)), some (.int (iI k))] []
  obtain ⟨h0, hf, hs⟩ := h
  refine v_iload_n (pc := 0) cx rfl ga1 dX3_has_0 ?_
  refine v_if_lt (pc := 1) cx 16 dX3_has_1 rfl (by omega) (fun c1 => ?_) (fun c1 => ?_)
  · refine v_iconst (pc := 16) cx dX3_has_16 ?_
    refine v_ireturn (pc := 17) cx hI rfl ?_ dX3_has_17
    exact ⟨Or.inr ⟨rfl, Or.inl c1⟩, rfl⟩
  · refine v_iload_n (pc := 4) cx rfl ga1 dX3_has_4 ?_
    refine v_aload_n (pc := 5) cx rfl ga0 dX3_has_5 ?_
    refine v_getfield (pc := 6) cx flX3_22 (by assumption) gf2 dX3_has_6 ?_
    refine v_icmp_ge (pc := 9) cx 16 dX3_has_9 rfl (by omega) (fun c9 => ?_) (fun c9 => ?_)
    · refine v_iconst (pc := 16) cx dX3_has_16 ?_
      refine v_ireturn (pc := 17) cx hI rfl ?_ dX3_has_17
      exact ⟨Or.inr ⟨rfl, Or.inr c9⟩, rfl⟩
    · refine v_iconst (pc := 12) cx dX3_has_12 ?_
      refine v_goto (pc := 13) cx 17 dX3_has_13 rfl ?_
      refine v_ireturn (pc := 17) cx hI rfl ?_ dX3_has_17
      exact ⟨Or.inl ⟨rfl, c1, c9⟩, rfl⟩
set_option maxRecDepth 100000 in
set_option maxHeartbeats 4000000 in
theorem c_Ge_append (lc : Launch) (G : Gc) (E : Wd) (nh : Nat) {o m : Nat} {x y : Int} {f s : Nat → Int} (h : rGe G E o (m : Int) f s) (hm : m < 3) : CV lc G 0 yX3_append cX3_append 3 [.ref (gb G + o), .int (iI x), .int (iI y)] E nh 0 0 (fun E' => rGe G E' o ((m : Int) + 1) (upI f m x) (upI s m y) ∧ Out E E' o (o + 3)) := by
  refine CV.mk (by decide +kernel) rfl (Nat.le_of_ble_eq_true rfl) ?_
  intro X hG hL cx hR hI hini
  subst hG; subst hL
  show V X E (nh, 0, 0) 0 [some (.ref (gb (fG X) + o)), some (.int (iI x)), some (.int (iI y))] []
  obtain ⟨h0, hf, hs⟩ := h
  have hFr : Out E E o (o + 3) := fun j hj => rfl
  refine v_aload_n (pc := 0) cx rfl ga0 dX3_append_0 ?_
  refine v_getfield (pc := 1) cx flX3_22 (by assumption) gf2 dX3_append_1 ?_
  refine v_iconst (pc := 4) cx dX3_append_4 ?_
  refine v_icmp_lt (pc := 5) cx 9 dX3_append_5 rfl (by omega) (fun c5 => ?_) (fun c5 => ?_)
  · refine v_aload_n (pc := 9) cx rfl ga0 dX3_append_9 ?_
    refine v_getfield (pc := 10) cx flX3_9 (by assumption) gf0 dX3_append_10 ?_
    refine v_aload_n (pc := 13) cx rfl ga0 dX3_append_13 ?_
    refine v_getfield (pc := 14) cx flX3_22 (by assumption) gf2 dX3_append_14 ?_
    refine v_iload_n (pc := 17) cx rfl ga1 dX3_append_17 ?_
    refine v_iastore (pc := 18) cx (m) hf (by omega) dX3_append_18 (fun E18 hE18 hF18 => ?_)
    replace h0 := (hF18 _ (by omega)).trans h0
    replace hf := hE18
    replace hs := (hF18 _ (by omega)).trans hs
    replace hFr := fun j hj => (hF18 j (by omega)).trans (hFr j hj)
    refine v_aload_n (pc := 19) cx rfl ga0 dX3_append_19 ?_
    refine v_getfield (pc := 20) cx flX3_15 (by assumption) gf1 dX3_append_20 ?_
    refine v_aload_n (pc := 23) cx rfl ga0 dX3_append_23 ?_
    refine v_getfield (pc := 24) cx flX3_22 (by assumption) gf2 dX3_append_24 ?_
    refine v_iload_n (pc := 27) cx rfl ga2 dX3_append_27 ?_
    refine v_iastore (pc := 28) cx (m) hs (by omega) dX3_append_28 (fun E28 hE28 hF28 => ?_)
    replace h0 := (hF28 _ (by omega)).trans h0
    replace hf := (hF28 _ (by omega)).trans hf
    replace hs := hE28
    replace hFr := fun j hj => (hF28 j (by omega)).trans (hFr j hj)
    refine v_aload_n (pc := 29) cx rfl ga0 dX3_append_29 ?_
    refine v_dup (pc := 30) cx rfl dX3_append_30 ?_
    refine v_getfield (pc := 31) cx flX3_22 (by assumption) gf2 dX3_append_31 ?_
    refine v_iconst (pc := 34) cx dX3_append_34 ?_
    refine v_iadd (pc := 35) cx dX3_append_35 ?_
    refine v_putfield (pc := 36) cx fpX3_22 h0 ⟨rfl, rfl⟩ pf2 dX3_append_36 (fun E36 hE36 hF36 => ?_)
    replace h0 := hE36
    replace hf := (hF36 _ (by omega)).trans hf
    replace hs := (hF36 _ (by omega)).trans hs
    replace hFr := fun j hj => (hF36 j (by omega)).trans (hFr j hj)
    refine v_return (pc := 39) cx hI ?_ dX3_append_39
    exact ⟨⟨h0, hf, hs⟩, hFr⟩
  · omega
set_option maxRecDepth 100000 in
set_option maxHeartbeats 4000000 in
theorem c_Ge_removeAt (lc : Launch) (G : Gc) (E : Wd) (nh : Nat) {o m k : Nat} {f s : Nat → Int} (h : rGe G E o (m : Int) f s) (hm : m ≤ 3) (hk : k < m) : CV lc G 1 yX3_removeAt cX3_removeAt 3 [.ref (gb G + o), .int (iI (k : Int))] E nh 0 0 (fun E' => rGe G E' o ((m : Int) - 1) (delF f k m) (delF s k m) ∧ Out E E' o (o + 3)) := by
  refine CV.mk (by decide +kernel) rfl (Nat.le_of_ble_eq_true rfl) ?_
  intro X hG hL cx hR hI hini
  subst hG; subst hL
  show V X E (nh, 0, 0) 0 [some (.ref (gb (fG X) + o)), some (.int (iI (k : Int))), none] []
  have loop : ∀ (d i : Nat) (E' : Wd), k + 1 ≤ i → i ≤ m → m - i < d → rGe (fG X) E' o m (delF f k i) (delF s k i) → Out E E' o (o + 3) → V X E' (nh, 0, 0) 13 [some (.ref (gb (fG X) + o)), some (.int (iI (k : Int))), some (.int (iI (i : Int)))] [] := by
    intro d
    induction d with
    | zero => intro q E' hq hd; omega
    | succ d ih =>
      intro i E' hi1 hi2 hd h hFr
      obtain ⟨h0, hf, hs⟩ := h
      refine v_iload_n (pc := 13) cx rfl ga2 dX3_removeAt_13 ?_
      refine v_aload_n (pc := 14) cx rfl ga0 dX3_removeAt_14 ?_
      refine v_getfield (pc := 15) cx flX3_22 (by assumption) gf2 dX3_removeAt_15 ?_
      refine v_icmp_ge (pc := 18) cx 55 dX3_removeAt_18 rfl (by omega) (fun c18 => ?_) (fun c18 => ?_)
      · have e : i = m := by omega
        subst e
        refine v_aload_n (pc := 55) cx rfl ga0 dX3_removeAt_55 ?_
        refine v_dup (pc := 56) cx rfl dX3_removeAt_56 ?_
        refine v_getfield (pc := 57) cx flX3_22 (by assumption) gf2 dX3_removeAt_57 ?_
        refine v_iconst (pc := 60) cx dX3_removeAt_60 ?_
        refine v_isub (pc := 61) cx dX3_removeAt_61 ?_
        refine v_putfield (pc := 62) cx fpX3_22 h0 ⟨rfl, rfl⟩ pf2 dX3_removeAt_62 (fun E62 hE62 hF62 => ?_)
        replace h0 := hE62
        replace hf := (hF62 _ (by omega)).trans hf
        replace hs := (hF62 _ (by omega)).trans hs
        replace hFr := fun j hj => (hF62 j (by omega)).trans (hFr j hj)
        refine v_return (pc := 65) cx hI ?_ dX3_removeAt_65
        exact ⟨⟨h0, hf, hs⟩, hFr⟩
      · refine v_aload_n (pc := 21) cx rfl ga0 dX3_removeAt_21 ?_
        refine v_getfield (pc := 22) cx flX3_9 (by assumption) gf0 dX3_removeAt_22 ?_
        refine v_iload_n (pc := 25) cx rfl ga2 dX3_removeAt_25 ?_
        refine v_iconst (pc := 26) cx dX3_removeAt_26 ?_
        refine v_isub (pc := 27) cx dX3_removeAt_27 ?_
        refine v_aload_n (pc := 28) cx rfl ga0 dX3_removeAt_28 ?_
        refine v_getfield (pc := 29) cx flX3_9 (by assumption) gf0 dX3_removeAt_29 ?_
        refine v_iload_n (pc := 32) cx rfl ga2 dX3_removeAt_32 ?_
        refine v_iaload (pc := 33) cx (i) (by assumption) (by omega) dX3_removeAt_33 ?_
        refine v_iastore (pc := 34) cx (i - 1) hf (by omega) dX3_removeAt_34 (fun E34 hE34 hF34 => ?_)
        replace h0 := (hF34 _ (by omega)).trans h0
        replace hf := hE34
        replace hs := (hF34 _ (by omega)).trans hs
        replace hFr := fun j hj => (hF34 j (by omega)).trans (hFr j hj)
        refine v_aload_n (pc := 35) cx rfl ga0 dX3_removeAt_35 ?_
        refine v_getfield (pc := 36) cx flX3_15 (by assumption) gf1 dX3_removeAt_36 ?_
        refine v_iload_n (pc := 39) cx rfl ga2 dX3_removeAt_39 ?_
        refine v_iconst (pc := 40) cx dX3_removeAt_40 ?_
        refine v_isub (pc := 41) cx dX3_removeAt_41 ?_
        refine v_aload_n (pc := 42) cx rfl ga0 dX3_removeAt_42 ?_
        refine v_getfield (pc := 43) cx flX3_15 (by assumption) gf1 dX3_removeAt_43 ?_
        refine v_iload_n (pc := 46) cx rfl ga2 dX3_removeAt_46 ?_
        refine v_iaload (pc := 47) cx (i) (by assumption) (by omega) dX3_removeAt_47 ?_
        refine v_iastore (pc := 48) cx (i - 1) hs (by omega) dX3_removeAt_48 (fun E48 hE48 hF48 => ?_)
        replace h0 := (hF48 _ (by omega)).trans h0
        replace hf := (hF48 _ (by omega)).trans hf
        replace hs := hE48
        replace hFr := fun j hj => (hF48 j (by omega)).trans (hFr j hj)
        refine v_iinc (pc := 49) cx ga2 (sa2 rfl) dX3_removeAt_49 ?_
        refine v_goto (pc := 52) cx 13 dX3_removeAt_52 rfl ?_
        rw [delF_step hi1] at hf hs
        exact ih (i + 1) _ (by omega) (by omega) (by omega) ⟨h0, hf, hs⟩ hFr
  refine v_aload_n (pc := 0) cx rfl ga0 dX3_removeAt_0 ?_
  refine v_iload_n (pc := 1) cx rfl ga1 dX3_removeAt_1 ?_
  refine v_callVI (pc := 2) cx hR (c_Ge_has _ _ _ _ h (by omega) (by omega)) mlX3_26 (by decide) h.1 rfl rfl rfl (Nat.le_of_ble_eq_true rfl) ⟨Nat.le_refl _, Nat.le_refl _⟩ dX3_removeAt_2 (fun v E2 hP => ?_)
  obtain ⟨hv, rfl⟩ := hP
  refine v_if_ne (pc := 5) cx 9 dX3_removeAt_5 rfl (by omega) (fun c5 => ?_) (fun c5 => ?_)
  · refine v_iload_n (pc := 9) cx rfl ga1 dX3_removeAt_9 ?_
    refine v_iconst (pc := 10) cx dX3_removeAt_10 ?_
    refine v_iadd (pc := 11) cx dX3_removeAt_11 ?_
    refine v_istore_n (pc := 12) cx rfl (sa2 rfl) dX3_removeAt_12 ?_
    exact loop (m + 1) (k + 1) _ (Nat.le_refl _) (by omega) (by omega) (by rw [delF_0, delF_0]; exact h) (fun _ _ => rfl)
  · omega
set_option maxRecDepth 100000 in
set_option maxHeartbeats 4000000 in
theorem c_Ge_copyFrom (lc : Launch) (G : Gc) (E : Wd) (nh : Nat) {o oo : Nat} {m m' : Int} {f s f' s' : Nat → Int} (h : rGe G E o m f s) (h' : rGe G E oo m' f' s') (hd : o + 3 ≤ oo ∨ oo + 3 ≤ o) : CV lc G 2 yX3_copyFrom cX3_copyFrom 2 [.ref (gb G + o), .ref (gb G + oo)] E nh 0 0 (fun E' => (∃ f2 s2 : Nat → Int, rGe G E' o m' f2 s2 ∧ ∀ j, j < 3 → f2 j = f' j ∧ s2 j = s' j) ∧ Out E E' o (o + 3)) := by
  refine CV.mk (by decide +kernel) rfl (Nat.le_of_ble_eq_true rfl) ?_
  intro X hG hL cx hR hI hini
  subst hG; subst hL
  show V X E (nh, 0, 0) 0 [some (.ref (gb (fG X) + o)), some (.ref (gb (fG X) + oo))] []
  obtain ⟨h0, hf, hs⟩ := id h
  obtain ⟨g0, gf, gs⟩ := id h'
  have hFr : Out E E o (o + 3) := fun j hj => rfl
  refine v_aload_n (pc := 0) cx rfl ga1 dX3_copyFrom_0 ?_
  refine v_getfield (pc := 1) cx flX3_9 (by assumption) gf0 dX3_copyFrom_1 ?_
  refine v_aload_n (pc := 4) cx rfl ga0 dX3_copyFrom_4 ?_
  refine v_getfield (pc := 5) cx flX3_9 (by assumption) gf0 dX3_copyFrom_5 ?_
  refine v_callSV (pc := 8) cx hR (c_copyRow _ _ _ _ (by omega) gf hf) mlX3_18 (by decide) rfl (Nat.le_of_ble_eq_true rfl) ⟨Nat.le_refl _, Nat.le_refl _⟩ dX3_copyFrom_8 (fun E1 hP => ?_)
  obtain ⟨hf, hF⟩ := hP
  replace h0 := (hF _ (by omega)).trans h0
  replace hs := (hF _ (by omega)).trans hs
  replace g0 := (hF _ (by omega)).trans g0
  replace gf := (hF _ (by omega)).trans gf
  replace gs := (hF _ (by omega)).trans gs
  replace hFr := fun j hj => (hF j (by omega)).trans (hFr j hj)
  refine v_aload_n (pc := 11) cx rfl ga1 dX3_copyFrom_11 ?_
  refine v_getfield (pc := 12) cx flX3_15 (by assumption) gf1 dX3_copyFrom_12 ?_
  refine v_aload_n (pc := 15) cx rfl ga0 dX3_copyFrom_15 ?_
  refine v_getfield (pc := 16) cx flX3_15 (by assumption) gf1 dX3_copyFrom_16 ?_
  refine v_callSV (pc := 19) cx hR (c_copyRow _ _ _ _ (by omega) gs hs) mlX3_18 (by decide) rfl (Nat.le_of_ble_eq_true rfl) ⟨Nat.le_refl _, Nat.le_refl _⟩ dX3_copyFrom_19 (fun E1 hP => ?_)
  obtain ⟨hs, hF⟩ := hP
  replace h0 := (hF _ (by omega)).trans h0
  replace hf := (hF _ (by omega)).trans hf
  replace g0 := (hF _ (by omega)).trans g0
  replace gf := (hF _ (by omega)).trans gf
  replace gs := (hF _ (by omega)).trans gs
  replace hFr := fun j hj => (hF j (by omega)).trans (hFr j hj)
  refine v_aload_n (pc := 22) cx rfl ga0 dX3_copyFrom_22 ?_
  refine v_aload_n (pc := 23) cx rfl ga1 dX3_copyFrom_23 ?_
  refine v_getfield (pc := 24) cx flX3_22 (by assumption) gf2 dX3_copyFrom_24 ?_
  refine v_putfield (pc := 27) cx fpX3_22 h0 ⟨rfl, rfl⟩ pf2 dX3_copyFrom_27 (fun E27 hE27 hF27 => ?_)
  replace h0 := hE27
  replace hf := (hF27 _ (by omega)).trans hf
  replace hs := (hF27 _ (by omega)).trans hs
  replace hFr := fun j hj => (hF27 j (by omega)).trans (hFr j hj)
  refine v_return (pc := 30) cx hI ?_ dX3_copyFrom_30
  exact ⟨⟨_, _, ⟨h0, hf, hs⟩, fun j hj => ⟨cpyI_in hj, cpyI_in hj⟩⟩, hFr⟩
/-! the drum's place: longs, as both sides reckon -/
def pL (c : Int64) (f : Nat → Int) : Nat → Int64
  | 0 => c
  | k + 1 => pL c f k * (iI (f k)).toInt64
def plc (cnt : Int) (f s : Nat → Int) (m : Nat) (teeth : Int) : Int :=
  (pL (iI cnt).toInt64 f m / pL 1 s m - pL (iI cnt).toInt64 f m / pL 1 s m / (iI teeth).toInt64 * (iI teeth).toInt64).toInt32.toInt
theorem iI_l {z : Int} (h : 0 ≤ z ∧ z < 2147483648) : (iI z).toInt64 = lN z.toNat := by
  obtain ⟨k, rfl⟩ := Int.eq_ofNat_of_zero_le h.1
  rw [iI_nI, nI_l (by omega)]
  rfl
theorem pL_ne {s : Nat → Int} : ∀ (m : Nat), m ≤ 3 → (∀ j, j < m → 8 ≤ s j ∧ s j ≤ 120) → ∃ k : Nat, pL 1 s m = lN k ∧ 1 ≤ k ∧ k ≤ 120 ^ m := by
  intro m
  induction m with
  | zero => intro _ _; exact ⟨1, rfl, Nat.le_refl _, Nat.le_refl _⟩
  | succ m ih =>
    intro hm hs
    obtain ⟨k, e, h1, h2⟩ := ih (by omega) (fun j hj => hs j (by omega))
    obtain ⟨h3, h4⟩ := hs m (by omega)
    refine ⟨k * (s m).toNat, ?_, ?_, ?_⟩
    · simp only [pL]
      rw [e, iI_l ⟨by omega, by omega⟩, lN_mul]
    · have : 1 ≤ (s m).toNat := by omega
      exact Nat.mul_le_mul h1 this
    · rw [Nat.pow_succ]
      exact Nat.mul_le_mul h2 (by omega)
theorem pL_nz {s : Nat → Int} {m : Nat} (hm : m ≤ 3) (hs : ∀ j, j < m → 8 ≤ s j ∧ s j ≤ 120) : ¬ pL 1 s m = 0 := by
  obtain ⟨k, e, h1, h2⟩ := pL_ne m hm hs
  have h3 : (120 : Nat) ^ m ≤ 120 ^ 3 := Nat.pow_le_pow_right (by decide) hm
  rw [e]
  intro h
  have : lN k = lN 0 := h
  rw [pk_lEQ (by omega) (by decide)] at this
  omega
theorem te_nz {z : Int} (h : 10 ≤ z ∧ z ≤ 1000) : ¬ (iI z).toInt64 = 0 := by
  rw [iI_l ⟨by omega, by omega⟩]
  intro h2
  have : lN z.toNat = lN 0 := h2
  rw [pk_lEQ (by omega) (by decide)] at this
  omega
theorem cmp_nz {x : Int64} (h : ¬ x = 0) : lg_cmp x 0 = iI 1 ∨ lg_cmp x 0 = iI (-1) := by
  unfold lg_cmp
  by_cases h1 : (0 : Int64) < x
  · left
    rw [if_pos h1]
    rfl
  · right
    rw [if_neg h1, if_neg h]
    rfl
set_option maxRecDepth 100000 in
set_option maxHeartbeats 4000000 in
theorem c_Ge_placeOf (lc : Launch) (G : Gc) (E : Wd) (nh : Nat) {o m : Nat} {cnt te : Int} {f s : Nat → Int} (h : rGe G E o (m : Int) f s) (hm : m ≤ 3) (hs0 : ∀ j, j < m → 8 ≤ s j ∧ s j ≤ 120) (ht : 10 ≤ te ∧ te ≤ 1000) : CI lc G 0 yX3_placeOf cX3_placeOf 8 .int [.ref (gb G + o), .int (iI cnt), .int (iI te)] E nh 0 0 (fun v E' => v = plc cnt f s m te ∧ E' = E) := by
  refine CI.mk (by decide +kernel) rfl (Nat.le_of_ble_eq_true rfl) ?_
  intro X hG hL cx hR hI
  subst hG; subst hL
  show V X E (nh, 0, 0) 0 [some (.ref (gb (fG X) + o)), some (.int (iI cnt)), some (.int (iI te)), none, none, none, none, none] []
  obtain ⟨h0, hf, hs⟩ := h
  have hz := pL_nz hm hs0
  have hz2 := te_nz ht
  have fin : V X E (nh, 0, 0) 55 [some (.ref (gb (fG X) + o)), some (.int (iI cnt)), some (.int (iI te)), some (.long (pL (iI cnt).toInt64 f m)), none, some (.long (pL 1 s m)), none, some (.int (iI (m : Int)))] [] := by
    refine v_iload_n (pc := 55) cx rfl ga2 dX3_placeOf_55 ?_
    refine v_if_ne (pc := 56) cx 61 dX3_placeOf_56 rfl (by omega) (fun c56 => ?_) (fun c56 => ?_)
    · refine v_lload_n (pc := 61) cx rfl ga3 dX3_placeOf_61 ?_
      refine v_lload (pc := 62) cx ga5 dX3_placeOf_62 ?_
      refine v_ldiv (pc := 64) cx (by assumption) dX3_placeOf_64 ?_
      refine v_iload_n (pc := 65) cx rfl ga2 dX3_placeOf_65 ?_
      refine v_i2l (pc := 66) cx dX3_placeOf_66 ?_
      refine v_lrem (pc := 67) cx (by assumption) dX3_placeOf_67 ?_
      refine v_l2i (pc := 68) cx dX3_placeOf_68 ?_
      rw [iI_of (Int64.toInt32 _)]
      refine v_ireturn (pc := 69) cx hI rfl ?_ dX3_placeOf_69
      exact ⟨rfl, rfl⟩
    · omega
  have loop : ∀ (d k : Nat), k ≤ m → m - k < d → V X E (nh, 0, 0) 9 [some (.ref (gb (fG X) + o)), some (.int (iI cnt)), some (.int (iI te)), some (.long (pL (iI cnt).toInt64 f k)), none, some (.long (pL 1 s k)), none, some (.int (iI (k : Int)))] [] := by
    intro d
    induction d with
    | zero => intro k hk hd; omega
    | succ d ih =>
      intro k hk hd
      refine v_iload (pc := 9) cx ga7 dX3_placeOf_9 ?_
      refine v_aload_n (pc := 11) cx rfl ga0 dX3_placeOf_11 ?_
      refine v_getfield (pc := 12) cx flX3_22 (by assumption) gf2 dX3_placeOf_12 ?_
      refine v_icmp_ge (pc := 15) cx 48 dX3_placeOf_15 rfl (by omega) (fun c15 => ?_) (fun c15 => ?_)
      · have e : k = m := by omega
        subst e
        refine v_lload (pc := 48) cx ga5 dX3_placeOf_48 ?_
        refine v_lconst (pc := 50) (v := 0) cx rfl dX3_placeOf_50 ?_
        refine v_lcmp (pc := 51) cx dX3_placeOf_51 ?_
        rcases cmp_nz hz with e | e
        · rw [e]
          refine v_if_eq (pc := 52) cx 59 dX3_placeOf_52 rfl (by omega) (fun c52 => ?_) (fun c52 => ?_)
          · omega
          · exact fin
        · rw [e]
          refine v_if_eq (pc := 52) cx 59 dX3_placeOf_52 rfl (by omega) (fun c52 => ?_) (fun c52 => ?_)
          · omega
          · exact fin
      · refine v_lload_n (pc := 18) cx rfl ga3 dX3_placeOf_18 ?_
        refine v_aload_n (pc := 19) cx rfl ga0 dX3_placeOf_19 ?_
        refine v_getfield (pc := 20) cx flX3_9 (by assumption) gf0 dX3_placeOf_20 ?_
        refine v_iload (pc := 23) cx ga7 dX3_placeOf_23 ?_
        refine v_iaload (pc := 25) cx (k) (by assumption) (by omega) dX3_placeOf_25 ?_
        refine v_i2l (pc := 26) cx dX3_placeOf_26 ?_
        refine v_lmul (pc := 27) cx dX3_placeOf_27 ?_
        refine v_lstore_n (pc := 28) cx rfl (sl3 rfl) dX3_placeOf_28 ?_
        refine v_lload (pc := 29) cx ga5 dX3_placeOf_29 ?_
        refine v_aload_n (pc := 31) cx rfl ga0 dX3_placeOf_31 ?_
        refine v_getfield (pc := 32) cx flX3_15 (by assumption) gf1 dX3_placeOf_32 ?_
        refine v_iload (pc := 35) cx ga7 dX3_placeOf_35 ?_
        refine v_iaload (pc := 37) cx (k) (by assumption) (by omega) dX3_placeOf_37 ?_
        refine v_i2l (pc := 38) cx dX3_placeOf_38 ?_
        refine v_lmul (pc := 39) cx dX3_placeOf_39 ?_
        refine v_lstore (pc := 40) cx (sl5 rfl) dX3_placeOf_40 ?_
        refine v_iinc (pc := 42) cx ga7 (sa7 rfl) dX3_placeOf_42 ?_
        refine v_goto (pc := 45) cx 9 dX3_placeOf_45 rfl ?_
        exact ih (k + 1) (by omega) (by omega)
  refine v_iload_n (pc := 0) cx rfl ga1 dX3_placeOf_0 ?_
  refine v_i2l (pc := 1) cx dX3_placeOf_1 ?_
  refine v_lstore_n (pc := 2) cx rfl (sl3 rfl) dX3_placeOf_2 ?_
  refine v_lconst (pc := 3) (v := 1) cx rfl dX3_placeOf_3 ?_
  refine v_lstore (pc := 4) cx (sl5 rfl) dX3_placeOf_4 ?_
  refine v_iconst (pc := 6) cx dX3_placeOf_6 ?_
  refine v_istore (pc := 7) cx (sa7 rfl) dX3_placeOf_7 ?_
  exact loop (m + 1) 0 (Nat.zero_le _) (by omega)
end
section
/-! the marks -/
def rMk (G : Gc) (E : Wd) (o : Nat) (n : Int) (t p v : Nat → Int) : Prop :=
  E o = some (.inr (5, [.ref (gb G + (o + 1)), .ref (gb G + (o + 2)), .ref (gb G + (o + 3)), .int (iI n)])) ∧ E (o + 1) = some (AI G 60 t) ∧ E (o + 2) = some (AI G 60 p) ∧ E (o + 3) = some (AI G 60 v)
theorem rMk.out {G : Gc} {E E' : Wd} {o : Nat} {n : Int} {b l r : Nat → Int} {x y : Nat} (h : rMk G E o n b l r) (hE : Out E E' x y) (hxy : o + 4 ≤ x ∨ y ≤ o) : rMk G E' o n b l r :=
  ⟨(hE _ (by omega)).trans h.1, (hE _ (by omega)).trans h.2.1, (hE _ (by omega)).trans h.2.2.1, (hE _ (by omega)).trans h.2.2.2⟩
def addMk (L : List (Int × Int × Int)) (x : Int × Int × Int) : List (Int × Int × Int) := (if L.length = 60 then L.tail else L) ++ [x]
theorem lst_len {b l r : Nat → Int} {m : Nat} : (lst b l r m).length = m := by simp [lst]
theorem lst_tail {b l r : Nat → Int} {m : Nat} : (lst b l r (m + 1)).tail = lst (fun j => b (j + 1)) (fun j => l (j + 1)) (fun j => r (j + 1)) m := by
  simp [lst, List.range_succ_eq_map, List.map_map, Function.comp_def]
def beg (t : Nat → Int) (gap : Int) (i : Nat) : Prop := i = 0 ∨ gap < t i - t (i - 1)
def cnt (t : Nat → Int) (gap : Int) : Nat → Nat
  | 0 => 0
  | k + 1 => cnt t gap k + if k = 0 ∨ gap < t k - t (k - 1) then 1 else 0
def lossTo (t : Nat → Int) (c : Int) (f : Nat) : Nat → Int
  | 0 => 0
  | d + 1 => lossTo t c f d + c / (t (f + 1 + d) - t (f + d))
def mxG (t : Nat → Int) : Nat → Int
  | 0 => 0
  | k + 1 => if k = 0 then 0 else max (mxG t k) (t k - t (k - 1))
/-- marks' ticks: ascending, within the run -/
def okT (t : Nat → Int) (m : Nat) : Prop := (∀ i, i < m → 0 ≤ t i ∧ t i ≤ 5000) ∧ ∀ i j, i < j → j < m → t i < t j
def isPk (t : Nat → Int) (f e : Nat) (v : Int) : Prop := (∃ i j : Nat, f ≤ i ∧ i ≤ j ∧ j < e ∧ t j - t i < 30 ∧ v = (j : Int) - i + 1) ∧ ∀ i j : Nat, f ≤ i → i ≤ j → j < e → t j - t i < 30 → (j : Int) - i + 1 ≤ v
theorem cnt_le (t : Nat → Int) (gap : Int) : ∀ k, cnt t gap k ≤ k := by
  intro k
  induction k with
  | zero => exact Nat.le_refl _
  | succ k ih => simp only [cnt]; split <;> omega
theorem mxG_bd {t : Nat → Int} {m : Nat} (h : okT t m) : ∀ k, k ≤ m → 0 ≤ mxG t k ∧ mxG t k ≤ 5000 := by
  intro k
  induction k with
  | zero => intro _; simp [mxG]
  | succ k ih =>
    intro hk
    have h1 := ih (by omega)
    simp only [mxG]
    split
    · exact ⟨Int.le_refl _, by decide⟩
    · have h2 := h.1 k (by omega)
      have h3 := h.1 (k - 1) (by omega)
      have h4 := h.2 (k - 1) k (by omega) (by omega)
      omega
theorem lossTo_bd {t : Nat → Int} {m f : Nat} {c : Int} (h : okT t m) (hc : 0 ≤ c ∧ c ≤ 10000) : ∀ d, f + d < m → 0 ≤ lossTo t c f d ∧ lossTo t c f d ≤ 10000 * d := by
  intro d
  induction d with
  | zero => intro _; exact ⟨Int.le_refl _, by simp [lossTo]⟩
  | succ d ih =>
    intro hd
    have h1 := ih (by omega)
    have h4 := h.2 (f + d) (f + 1 + d) (by omega) (by omega)
    simp only [lossTo]
    have h5 : 0 ≤ c / (t (f + 1 + d) - t (f + d)) := Int.ediv_nonneg hc.1 (by omega)
    have h6 : c / (t (f + 1 + d) - t (f + d)) ≤ c := Int.ediv_le_self _ hc.1
    omega
set_option maxRecDepth 100000 in
set_option maxHeartbeats 4000000 in
theorem c_Mk_has (lc : Launch) (G : Gc) (E : Wd) (nh : Nat) {o : Nat} {m k : Int} {t p v : Nat → Int} (h : rMk G E o m t p v) (hm : 0 ≤ m ∧ m ≤ 60) (hk : -2147483648 ≤ k ∧ k < 2147483648) : CI lc G 0 yX5_has cX5_has 2 .boolean [.ref (gb G + o), .int (iI k)] E nh 0 0 (fun v E' => ((v = 1 ∧ 0 ≤ k ∧ k < m) ∨ (v = 0 ∧ (k < 0 ∨ m ≤ k))) ∧ E' = E) := by
  refine CI.mk (by decide +kernel) rfl (Nat.le_of_ble_eq_true rfl) ?_
  intro X hG hL cx hR hI
  subst hG; subst hL
  show V X E (nh, 0, 0) 0 [some (.ref (gb (fG X) + o)), some (.int (iI k))] []
  obtain ⟨h0, h1, h2, h3⟩ := h
  refine v_iload_n (pc := 0) cx rfl ga1 dX5_has_0 ?_
  refine v_if_lt (pc := 1) cx 16 dX5_has_1 rfl (by omega) (fun c1 => ?_) (fun c1 => ?_)
  · refine v_iconst (pc := 16) cx dX5_has_16 ?_
    refine v_ireturn (pc := 17) cx hI rfl ?_ dX5_has_17
    exact ⟨Or.inr ⟨rfl, Or.inl c1⟩, rfl⟩
  · refine v_iload_n (pc := 4) cx rfl ga1 dX5_has_4 ?_
    refine v_aload_n (pc := 5) cx rfl ga0 dX5_has_5 ?_
    refine v_getfield (pc := 6) cx flX5_25 (by assumption) gf3 dX5_has_6 ?_
    refine v_icmp_ge (pc := 9) cx 16 dX5_has_9 rfl (by omega) (fun c9 => ?_) (fun c9 => ?_)
    · refine v_iconst (pc := 16) cx dX5_has_16 ?_
      refine v_ireturn (pc := 17) cx hI rfl ?_ dX5_has_17
      exact ⟨Or.inr ⟨rfl, Or.inr c9⟩, rfl⟩
    · refine v_iconst (pc := 12) cx dX5_has_12 ?_
      refine v_goto (pc := 13) cx 17 dX5_has_13 rfl ?_
      refine v_ireturn (pc := 17) cx hI rfl ?_ dX5_has_17
      exact ⟨Or.inl ⟨rfl, c1, c9⟩, rfl⟩
set_option maxRecDepth 100000 in
set_option maxHeartbeats 4000000 in
theorem c_Mk_removeOldest (lc : Launch) (G : Gc) (E : Wd) (nh : Nat) {o : Nat} {m : Int} {t p v : Nat → Int} (h : rMk G E o m t p v) : CV lc G 1 yX5_removeOldest cX5_removeOldest 1 [.ref (gb G + o)] E nh 0 0 (fun E' => rMk G E' o 59 (cpyI t t 1 0 59) (cpyI p p 1 0 59) (cpyI v v 1 0 59) ∧ Out E E' o (o + 4)) := by
  refine CV.mk (by decide +kernel) rfl (Nat.le_of_ble_eq_true rfl) ?_
  intro X hG hL cx hR hI hini
  subst hG; subst hL
  show V X E (nh, 0, 0) 0 [some (.ref (gb (fG X) + o))] []
  obtain ⟨h0, ht, hp, hv⟩ := h
  have hFr : Out E E o (o + 4) := fun j hj => rfl
  refine v_aload_n (pc := 0) cx rfl ga0 dX5_removeOldest_0 ?_
  refine v_bipush (pc := 1) cx (by decide) dX5_removeOldest_1 ?_
  refine v_putfield (pc := 3) cx fpX5_25 h0 ⟨rfl, rfl⟩ pf3 dX5_removeOldest_3 (fun E3 hE3 hF3 => ?_)
  replace h0 := hE3
  replace ht := (hF3 _ (by omega)).trans ht
  replace hp := (hF3 _ (by omega)).trans hp
  replace hv := (hF3 _ (by omega)).trans hv
  replace hFr := fun j hj => (hF3 j (by omega)).trans (hFr j hj)
  refine v_aload_n (pc := 6) cx rfl ga0 dX5_removeOldest_6 ?_
  refine v_getfield (pc := 7) cx flX5_9 (by assumption) gf0 dX5_removeOldest_7 ?_
  refine v_iconst (pc := 10) cx dX5_removeOldest_10 ?_
  refine v_aload_n (pc := 11) cx rfl ga0 dX5_removeOldest_11 ?_
  refine v_getfield (pc := 12) cx flX5_9 (by assumption) gf0 dX5_removeOldest_12 ?_
  refine v_iconst (pc := 15) cx dX5_removeOldest_15 ?_
  refine v_aload_n (pc := 16) cx rfl ga0 dX5_removeOldest_16 ?_
  refine v_getfield (pc := 17) cx flX5_25 (by assumption) gf3 dX5_removeOldest_17 ?_
  refine v_copy (pc := 20) cx 1 0 59 hR (by decide) acX5_32 ac_n ac_s ac_i ht ht (by omega) (Nat.le_of_ble_eq_true rfl) dX5_removeOldest_20 (fun E1 hE1 hF1 => ?_)
  replace h0 := (hF1 _ (by omega)).trans h0
  replace hp := (hF1 _ (by omega)).trans hp
  replace hv := (hF1 _ (by omega)).trans hv
  replace hFr := fun j hj => (hF1 j (by omega)).trans (hFr j hj)
  replace ht := hE1
  refine v_aload_n (pc := 23) cx rfl ga0 dX5_removeOldest_23 ?_
  refine v_getfield (pc := 24) cx flX5_15 (by assumption) gf1 dX5_removeOldest_24 ?_
  refine v_iconst (pc := 27) cx dX5_removeOldest_27 ?_
  refine v_aload_n (pc := 28) cx rfl ga0 dX5_removeOldest_28 ?_
  refine v_getfield (pc := 29) cx flX5_15 (by assumption) gf1 dX5_removeOldest_29 ?_
  refine v_iconst (pc := 32) cx dX5_removeOldest_32 ?_
  refine v_aload_n (pc := 33) cx rfl ga0 dX5_removeOldest_33 ?_
  refine v_getfield (pc := 34) cx flX5_25 (by assumption) gf3 dX5_removeOldest_34 ?_
  refine v_copy (pc := 37) cx 1 0 59 hR (by decide) acX5_32 ac_n ac_s ac_i hp hp (by omega) (Nat.le_of_ble_eq_true rfl) dX5_removeOldest_37 (fun E1 hE1 hF1 => ?_)
  replace h0 := (hF1 _ (by omega)).trans h0
  replace ht := (hF1 _ (by omega)).trans ht
  replace hv := (hF1 _ (by omega)).trans hv
  replace hFr := fun j hj => (hF1 j (by omega)).trans (hFr j hj)
  replace hp := hE1
  refine v_aload_n (pc := 40) cx rfl ga0 dX5_removeOldest_40 ?_
  refine v_getfield (pc := 41) cx flX5_18 (by assumption) gf2 dX5_removeOldest_41 ?_
  refine v_iconst (pc := 44) cx dX5_removeOldest_44 ?_
  refine v_aload_n (pc := 45) cx rfl ga0 dX5_removeOldest_45 ?_
  refine v_getfield (pc := 46) cx flX5_18 (by assumption) gf2 dX5_removeOldest_46 ?_
  refine v_iconst (pc := 49) cx dX5_removeOldest_49 ?_
  refine v_aload_n (pc := 50) cx rfl ga0 dX5_removeOldest_50 ?_
  refine v_getfield (pc := 51) cx flX5_25 (by assumption) gf3 dX5_removeOldest_51 ?_
  refine v_copy (pc := 54) cx 1 0 59 hR (by decide) acX5_32 ac_n ac_s ac_i hv hv (by omega) (Nat.le_of_ble_eq_true rfl) dX5_removeOldest_54 (fun E1 hE1 hF1 => ?_)
  replace h0 := (hF1 _ (by omega)).trans h0
  replace ht := (hF1 _ (by omega)).trans ht
  replace hp := (hF1 _ (by omega)).trans hp
  replace hFr := fun j hj => (hF1 j (by omega)).trans (hFr j hj)
  replace hv := hE1
  refine v_return (pc := 57) cx hI ?_ dX5_removeOldest_57
  exact ⟨⟨h0, ht, hp, hv⟩, hFr⟩
theorem cpyI_sh {f : Nat → Int} {j : Nat} (h : j < 59) : cpyI f f 1 0 59 j = f (j + 1) := by
  unfold cpyI
  rw [if_pos ⟨Nat.zero_le _, by omega⟩]
  congr 1
  omega
set_option maxRecDepth 100000 in
set_option maxHeartbeats 4000000 in
theorem c_Mk_append (lc : Launch) (G : Gc) (E : Wd) (nh : Nat) {o m : Nat} {x y w : Int} {t p v : Nat → Int} (h : rMk G E o (m : Int) t p v) (hm : m ≤ 60) : CV lc G 2 yX5_append cX5_append 4 [.ref (gb G + o), .int (iI x), .int (iI y), .int (iI w)] E nh 0 0 (fun E' => (∃ (m' : Nat) (t' p' v' : Nat → Int), rMk G E' o m' t' p' v' ∧ lst t' p' v' m' = addMk (lst t p v m) (x, y, w) ∧ m' ≤ 60) ∧ Out E E' o (o + 4)) := by
  refine CV.mk (by decide +kernel) rfl (Nat.le_of_ble_eq_true rfl) ?_
  intro X hG hL cx hR hI hini
  subst hG; subst hL
  show V X E (nh, 0, 0) 0 [some (.ref (gb (fG X) + o)), some (.int (iI x)), some (.int (iI y)), some (.int (iI w))] []
  have fin : ∀ (k : Nat) (t' p' v' : Nat → Int) (E' : Wd), k < 60 → rMk (fG X) E' o k t' p' v' → lst t' p' v' k = (if (lst t p v m).length = 60 then (lst t p v m).tail else lst t p v m) → Out E E' o (o + 4) → V X E' (nh, 0, 0) 13 [some (.ref (gb (fG X) + o)), some (.int (iI x)), some (.int (iI y)), some (.int (iI w))] [] := by
    intro k t' p' v' E' hk h hls hFr
    obtain ⟨h0, ht, hp, hv⟩ := h
    refine v_aload_n (pc := 13) cx rfl ga0 dX5_append_13 ?_
    refine v_getfield (pc := 14) cx flX5_9 (by assumption) gf0 dX5_append_14 ?_
    refine v_aload_n (pc := 17) cx rfl ga0 dX5_append_17 ?_
    refine v_getfield (pc := 18) cx flX5_25 (by assumption) gf3 dX5_append_18 ?_
    refine v_iload_n (pc := 21) cx rfl ga1 dX5_append_21 ?_
    refine v_iastore (pc := 22) cx (k) ht (by omega) dX5_append_22 (fun E22 hE22 hF22 => ?_)
    replace h0 := (hF22 _ (by omega)).trans h0
    replace ht := hE22
    replace hp := (hF22 _ (by omega)).trans hp
    replace hv := (hF22 _ (by omega)).trans hv
    replace hFr := fun j hj => (hF22 j (by omega)).trans (hFr j hj)
    refine v_aload_n (pc := 23) cx rfl ga0 dX5_append_23 ?_
    refine v_getfield (pc := 24) cx flX5_15 (by assumption) gf1 dX5_append_24 ?_
    refine v_aload_n (pc := 27) cx rfl ga0 dX5_append_27 ?_
    refine v_getfield (pc := 28) cx flX5_25 (by assumption) gf3 dX5_append_28 ?_
    refine v_iload_n (pc := 31) cx rfl ga2 dX5_append_31 ?_
    refine v_iastore (pc := 32) cx (k) hp (by omega) dX5_append_32 (fun E32 hE32 hF32 => ?_)
    replace h0 := (hF32 _ (by omega)).trans h0
    replace ht := (hF32 _ (by omega)).trans ht
    replace hp := hE32
    replace hv := (hF32 _ (by omega)).trans hv
    replace hFr := fun j hj => (hF32 j (by omega)).trans (hFr j hj)
    refine v_aload_n (pc := 33) cx rfl ga0 dX5_append_33 ?_
    refine v_getfield (pc := 34) cx flX5_18 (by assumption) gf2 dX5_append_34 ?_
    refine v_aload_n (pc := 37) cx rfl ga0 dX5_append_37 ?_
    refine v_getfield (pc := 38) cx flX5_25 (by assumption) gf3 dX5_append_38 ?_
    refine v_iload_n (pc := 41) cx rfl ga3 dX5_append_41 ?_
    refine v_iastore (pc := 42) cx (k) hv (by omega) dX5_append_42 (fun E42 hE42 hF42 => ?_)
    replace h0 := (hF42 _ (by omega)).trans h0
    replace ht := (hF42 _ (by omega)).trans ht
    replace hp := (hF42 _ (by omega)).trans hp
    replace hv := hE42
    replace hFr := fun j hj => (hF42 j (by omega)).trans (hFr j hj)
    refine v_aload_n (pc := 43) cx rfl ga0 dX5_append_43 ?_
    refine v_dup (pc := 44) cx rfl dX5_append_44 ?_
    refine v_getfield (pc := 45) cx flX5_25 (by assumption) gf3 dX5_append_45 ?_
    refine v_iconst (pc := 48) cx dX5_append_48 ?_
    refine v_iadd (pc := 49) cx dX5_append_49 ?_
    refine v_putfield (pc := 50) cx fpX5_25 h0 ⟨rfl, rfl⟩ pf3 dX5_append_50 (fun E50 hE50 hF50 => ?_)
    replace h0 := hE50
    replace ht := (hF50 _ (by omega)).trans ht
    replace hp := (hF50 _ (by omega)).trans hp
    replace hv := (hF50 _ (by omega)).trans hv
    replace hFr := fun j hj => (hF50 j (by omega)).trans (hFr j hj)
    refine v_return (pc := 53) cx hI ?_ dX5_append_53
    refine ⟨⟨k + 1, _, _, _, ⟨h0, ht, hp, hv⟩, ?_, by omega⟩, hFr⟩
    rw [lst_push, hls]
    rfl
  obtain ⟨h0, ht, hp, hv⟩ := id h
  refine v_aload_n (pc := 0) cx rfl ga0 dX5_append_0 ?_
  refine v_getfield (pc := 1) cx flX5_25 (by assumption) gf3 dX5_append_1 ?_
  refine v_bipush (pc := 4) cx (by decide) dX5_append_4 ?_
  refine v_icmp_lt (pc := 6) cx 13 dX5_append_6 rfl (by omega) (fun c6 => ?_) (fun c6 => ?_)
  · refine fin m t p v E (by omega) h ?_ (fun _ _ => rfl)
    rw [lst_len, if_neg (by omega)]
  · refine v_aload_n (pc := 9) cx rfl ga0 dX5_append_9 ?_
    refine v_callVV (pc := 10) cx hR (c_Mk_removeOldest _ _ _ _ h) mlX5_29 (by decide) (by assumption) rfl rfl rfl (Nat.le_of_ble_eq_true rfl) ⟨Nat.le_refl _, Nat.le_refl _⟩ dX5_append_10 (fun E2 hP => ?_)
    obtain ⟨h2, hF2⟩ := hP
    refine fin 59 _ _ _ E2 (by omega) h2 ?_ hF2
    have e : m = 60 := by omega
    subst e
    rw [lst_len, if_pos rfl, lst_tail]
    exact lst_ext (fun j hj => ⟨cpyI_sh hj, cpyI_sh hj, cpyI_sh hj⟩)
set_option maxRecDepth 100000 in
set_option maxHeartbeats 4000000 in
theorem c_Mk_ticksBetween (lc : Launch) (G : Gc) (E : Wd) (nh : Nat) {o m i j : Nat} {t p v : Nat → Int} (h : rMk G E o (m : Int) t p v) (hm : m ≤ 60) (hi : i < m) (hj : j < m) : CI lc G 1 yX5_ticksBetween cX5_ticksBetween 3 .int [.ref (gb G + o), .int (iI (i : Int)), .int (iI (j : Int))] E nh 0 0 (fun v E' => v = t j - t i ∧ E' = E) := by
  refine CI.mk (by decide +kernel) rfl (Nat.le_of_ble_eq_true rfl) ?_
  intro X hG hL cx hR hI
  subst hG; subst hL
  show V X E (nh, 0, 0) 0 [some (.ref (gb (fG X) + o)), some (.int (iI (i : Int))), some (.int (iI (j : Int)))] []
  obtain ⟨h0, ht, hp, hv⟩ := id h
  refine v_aload_n (pc := 0) cx rfl ga0 dX5_ticksBetween_0 ?_
  refine v_iload_n (pc := 1) cx rfl ga1 dX5_ticksBetween_1 ?_
  refine v_callVI (pc := 2) cx hR (c_Mk_has _ _ _ _ h (by omega) (by omega)) mlX5_38 (by decide) (by assumption) rfl rfl rfl (Nat.le_of_ble_eq_true rfl) ⟨Nat.le_refl _, Nat.le_refl _⟩ dX5_ticksBetween_2 (fun v2 E2 hP => ?_)
  obtain ⟨hv2, rfl⟩ := hP
  refine v_if_eq (pc := 5) cx 32 dX5_ticksBetween_5 rfl (by omega) (fun c5 => ?_) (fun c5 => ?_)
  · omega
  · refine v_aload_n (pc := 8) cx rfl ga0 dX5_ticksBetween_8 ?_
    refine v_iload_n (pc := 9) cx rfl ga2 dX5_ticksBetween_9 ?_
    refine v_callVI (pc := 10) cx hR (c_Mk_has _ _ _ _ h (by omega) (by omega)) mlX5_38 (by decide) (by assumption) rfl rfl rfl (Nat.le_of_ble_eq_true rfl) ⟨Nat.le_refl _, Nat.le_refl _⟩ dX5_ticksBetween_10 (fun v3 E3 hP => ?_)
    obtain ⟨hv3, rfl⟩ := hP
    refine v_if_eq (pc := 13) cx 32 dX5_ticksBetween_13 rfl (by omega) (fun c13 => ?_) (fun c13 => ?_)
    · omega
    · refine v_aload_n (pc := 16) cx rfl ga0 dX5_ticksBetween_16 ?_
      refine v_getfield (pc := 17) cx flX5_9 (by assumption) gf0 dX5_ticksBetween_17 ?_
      refine v_iload_n (pc := 20) cx rfl ga2 dX5_ticksBetween_20 ?_
      refine v_iaload (pc := 21) cx (j) (by assumption) (by omega) dX5_ticksBetween_21 ?_
      refine v_aload_n (pc := 22) cx rfl ga0 dX5_ticksBetween_22 ?_
      refine v_getfield (pc := 23) cx flX5_9 (by assumption) gf0 dX5_ticksBetween_23 ?_
      refine v_iload_n (pc := 26) cx rfl ga1 dX5_ticksBetween_26 ?_
      refine v_iaload (pc := 27) cx (i) (by assumption) (by omega) dX5_ticksBetween_27 ?_
      refine v_isub (pc := 28) cx dX5_ticksBetween_28 ?_
      refine v_goto (pc := 29) cx 33 dX5_ticksBetween_29 rfl ?_
      refine v_ireturn (pc := 33) cx hI rfl ?_ dX5_ticksBetween_33
      exact ⟨rfl, rfl⟩
set_option maxRecDepth 100000 in
set_option maxHeartbeats 4000000 in
theorem c_Mk_widestGap (lc : Launch) (G : Gc) (E : Wd) (nh : Nat) {o m : Nat} {t p v : Nat → Int} (h : rMk G E o (m : Int) t p v) (hm : m ≤ 60) (hT : okT t m) : CI lc G 2 yX5_widestGap cX5_widestGap 3 .int [.ref (gb G + o)] E nh 0 0 (fun v E' => v = mxG t m ∧ E' = E) := by
  refine CI.mk (by decide +kernel) rfl (Nat.le_of_ble_eq_true rfl) ?_
  intro X hG hL cx hR hI
  subst hG; subst hL
  show V X E (nh, 0, 0) 0 [some (.ref (gb (fG X) + o)), none, none] []
  obtain ⟨h0, ht, hp, hv⟩ := id h
  have loop : ∀ (d i : Nat), 1 ≤ i → (i ≤ m ∨ (m = 0 ∧ i = 1)) → m + 1 - i < d → V X E (nh, 0, 0) 4 [some (.ref (gb (fG X) + o)), some (.int (iI (mxG t i))), some (.int (iI (i : Int)))] [] := by
    intro d
    induction d with
    | zero => intro k hk hd; omega
    | succ d ih =>
      intro i hi1 hi2 hd
      refine v_iload_n (pc := 4) cx rfl ga2 dX5_widestGap_4 ?_
      refine v_aload_n (pc := 5) cx rfl ga0 dX5_widestGap_5 ?_
      refine v_getfield (pc := 6) cx flX5_25 (by assumption) gf3 dX5_widestGap_6 ?_
      refine v_icmp_ge (pc := 9) cx 31 dX5_widestGap_9 rfl (by omega) (fun c9 => ?_) (fun c9 => ?_)
      · refine v_iload_n (pc := 31) cx rfl ga1 dX5_widestGap_31 ?_
        refine v_ireturn (pc := 32) cx hI rfl ?_ dX5_widestGap_32
        refine ⟨?_, rfl⟩
        rcases hi2 with h5 | ⟨h5, h6⟩
        · rw [show i = m by omega]
        · rw [h5, h6]
          rfl
      · refine v_iload_n (pc := 12) cx rfl ga1 dX5_widestGap_12 ?_
        refine v_aload_n (pc := 13) cx rfl ga0 dX5_widestGap_13 ?_
        refine v_iload_n (pc := 14) cx rfl ga2 dX5_widestGap_14 ?_
        refine v_iconst (pc := 15) cx dX5_widestGap_15 ?_
        refine v_isub (pc := 16) cx dX5_widestGap_16 ?_
        refine v_iload_n (pc := 17) cx rfl ga2 dX5_widestGap_17 ?_
        rw [show ((i : Int) - 1) = ((i - 1 : Nat) : Int) by omega]
        refine v_callVI (pc := 18) cx hR (c_Mk_ticksBetween _ _ _ _ h hm (by omega) (by omega)) mlX5_42 (by decide) (by assumption) rfl rfl rfl (Nat.le_of_ble_eq_true rfl) ⟨Nat.le_refl _, Nat.le_refl _⟩ dX5_widestGap_18 (fun v2 E2 hP => ?_)
        obtain ⟨rfl, rfl⟩ := hP
        have g1 := mxG_bd hT i (by omega)
        have g2 := hT.1 i (by omega)
        have g3 := hT.1 (i - 1) (by omega)
        refine v_callSI (pc := 21) cx hR (c_max _ _ _ _ (by omega)) mlX5_46 (by decide) rfl (Nat.le_of_ble_eq_true rfl) ⟨Nat.le_refl _, Nat.le_refl _⟩ dX5_widestGap_21 (fun v3 E3 hP => ?_)
        obtain ⟨rfl, rfl⟩ := hP
        refine v_istore_n (pc := 24) cx rfl (sa1 rfl) dX5_widestGap_24 ?_
        refine v_iinc (pc := 25) cx ga2 (sa2 rfl) dX5_widestGap_25 ?_
        refine v_goto (pc := 28) cx 4 dX5_widestGap_28 rfl ?_
        have e : mxG t (i + 1) = max (mxG t i) (t i - t (i - 1)) := by simp only [mxG]; rw [if_neg (by omega)]
        rw [← e]
        exact ih (i + 1) (by omega) (by omega) (by omega)
  refine v_iconst (pc := 0) cx dX5_widestGap_0 ?_
  refine v_istore_n (pc := 1) cx rfl (sa1 rfl) dX5_widestGap_1 ?_
  refine v_iconst (pc := 2) cx dX5_widestGap_2 ?_
  refine v_istore_n (pc := 3) cx rfl (sa2 rfl) dX5_widestGap_3 ?_
  exact loop (m + 2) 1 (by omega) (by omega) (by omega)
set_option maxRecDepth 100000 in
set_option maxHeartbeats 4000000 in
theorem c_Mk_beginsStorm (lc : Launch) (G : Gc) (E : Wd) (nh : Nat) {o m i : Nat} {gap : Int} {t p v : Nat → Int} (h : rMk G E o (m : Int) t p v) (hm : m ≤ 60) (hT : okT t m) (hi : i < m) (hg : 1 ≤ gap ∧ gap ≤ 1000) : CI lc G 2 yX5_beginsStorm cX5_beginsStorm 3 .boolean [.ref (gb G + o), .int (iI (i : Int)), .int (iI gap)] E nh 0 0 (fun v E' => ((v = 1 ∧ beg t gap i) ∨ (v = 0 ∧ ¬ beg t gap i)) ∧ E' = E) := by
  refine CI.mk (by decide +kernel) rfl (Nat.le_of_ble_eq_true rfl) ?_
  intro X hG hL cx hR hI
  subst hG; subst hL
  show V X E (nh, 0, 0) 0 [some (.ref (gb (fG X) + o)), some (.int (iI (i : Int))), some (.int (iI gap))] []
  obtain ⟨h0, ht, hp, hv⟩ := id h
  refine v_iload_n (pc := 0) cx rfl ga1 dX5_beginsStorm_0 ?_
  refine v_if_eq (pc := 1) cx 16 dX5_beginsStorm_1 rfl (by omega) (fun c1 => ?_) (fun c1 => ?_)
  · refine v_iconst (pc := 16) cx dX5_beginsStorm_16 ?_
    refine v_goto (pc := 17) cx 21 dX5_beginsStorm_17 rfl ?_
    refine v_ireturn (pc := 21) cx hI rfl ?_ dX5_beginsStorm_21
    exact ⟨Or.inl ⟨rfl, Or.inl (by omega)⟩, rfl⟩
  · refine v_aload_n (pc := 4) cx rfl ga0 dX5_beginsStorm_4 ?_
    refine v_iload_n (pc := 5) cx rfl ga1 dX5_beginsStorm_5 ?_
    refine v_iconst (pc := 6) cx dX5_beginsStorm_6 ?_
    refine v_isub (pc := 7) cx dX5_beginsStorm_7 ?_
    refine v_iload_n (pc := 8) cx rfl ga1 dX5_beginsStorm_8 ?_
    rw [show ((i : Int) - 1) = ((i - 1 : Nat) : Int) by omega]
    refine v_callVI (pc := 9) cx hR (c_Mk_ticksBetween _ _ _ _ h hm (by omega) (by omega)) mlX5_42 (by decide) (by assumption) rfl rfl rfl (Nat.le_of_ble_eq_true rfl) ⟨Nat.le_refl _, Nat.le_refl _⟩ dX5_beginsStorm_9 (fun v2 E2 hP => ?_)
    obtain ⟨rfl, rfl⟩ := hP
    have g2 := hT.1 i (by omega)
    have g3 := hT.1 (i - 1) (by omega)
    refine v_iload_n (pc := 12) cx rfl ga2 dX5_beginsStorm_12 ?_
    refine v_icmp_le (pc := 13) cx 20 dX5_beginsStorm_13 rfl (by omega) (fun c13 => ?_) (fun c13 => ?_)
    · refine v_iconst (pc := 20) cx dX5_beginsStorm_20 ?_
      refine v_ireturn (pc := 21) cx hI rfl ?_ dX5_beginsStorm_21
      refine ⟨Or.inr ⟨rfl, fun hb => ?_⟩, rfl⟩
      rcases hb with hb | hb <;> omega
    · refine v_iconst (pc := 16) cx dX5_beginsStorm_16 ?_
      refine v_goto (pc := 17) cx 21 dX5_beginsStorm_17 rfl ?_
      refine v_ireturn (pc := 21) cx hI rfl ?_ dX5_beginsStorm_21
      exact ⟨Or.inl ⟨rfl, Or.inr c13⟩, rfl⟩
theorem cnt_b {t : Nat → Int} {gap : Int} {k : Nat} (h : beg t gap k) : cnt t gap (k + 1) = cnt t gap k + 1 := by
  simp only [cnt]
  rw [if_pos (show k = 0 ∨ gap < t k - t (k - 1) from h)]
theorem cnt_n {t : Nat → Int} {gap : Int} {k : Nat} (h : ¬ beg t gap k) : cnt t gap (k + 1) = cnt t gap k := by
  simp only [cnt]
  rw [if_neg (show ¬ (k = 0 ∨ gap < t k - t (k - 1)) from h), Nat.add_zero]
set_option maxRecDepth 100000 in
set_option maxHeartbeats 4000000 in
theorem c_Mk_countStorms (lc : Launch) (G : Gc) (E : Wd) (nh : Nat) {o m : Nat} {gap : Int} {t p v : Nat → Int} (h : rMk G E o (m : Int) t p v) (hm : m ≤ 60) (hT : okT t m) (hg : 1 ≤ gap ∧ gap ≤ 1000) : CI lc G 3 yX5_countStorms cX5_countStorms 4 .int [.ref (gb G + o), .int (iI gap)] E nh 0 0 (fun v E' => v = (cnt t gap m : Int) ∧ E' = E) := by
  refine CI.mk (by decide +kernel) rfl (Nat.le_of_ble_eq_true rfl) ?_
  intro X hG hL cx hR hI
  subst hG; subst hL
  show V X E (nh, 0, 0) 0 [some (.ref (gb (fG X) + o)), some (.int (iI gap)), none, none] []
  obtain ⟨h0, ht, hp, hv⟩ := id h
  have loop : ∀ (d i : Nat), i ≤ m → m - i < d → V X E (nh, 0, 0) 4 [some (.ref (gb (fG X) + o)), some (.int (iI gap)), some (.int (iI (cnt t gap i : Int))), some (.int (iI (i : Int)))] [] := by
    intro d
    induction d with
    | zero => intro k hk hd; omega
    | succ d ih =>
      intro i hi hd
      refine v_iload_n (pc := 4) cx rfl ga3 dX5_countStorms_4 ?_
      refine v_aload_n (pc := 5) cx rfl ga0 dX5_countStorms_5 ?_
      refine v_getfield (pc := 6) cx flX5_25 (by assumption) gf3 dX5_countStorms_6 ?_
      refine v_icmp_ge (pc := 9) cx 30 dX5_countStorms_9 rfl (by omega) (fun c9 => ?_) (fun c9 => ?_)
      · refine v_iload_n (pc := 30) cx rfl ga2 dX5_countStorms_30 ?_
        refine v_ireturn (pc := 31) cx hI rfl ?_ dX5_countStorms_31
        rw [show i = m by omega]
        exact ⟨rfl, rfl⟩
      · refine v_aload_n (pc := 12) cx rfl ga0 dX5_countStorms_12 ?_
        refine v_iload_n (pc := 13) cx rfl ga3 dX5_countStorms_13 ?_
        refine v_iload_n (pc := 14) cx rfl ga1 dX5_countStorms_14 ?_
        refine v_callVI (pc := 15) cx hR (c_Mk_beginsStorm _ _ _ _ h hm hT (by omega) hg) mlX5_51 (by decide) (by assumption) rfl rfl rfl (Nat.le_of_ble_eq_true rfl) ⟨Nat.le_refl _, Nat.le_refl _⟩ dX5_countStorms_15 (fun v2 E2 hP => ?_)
        obtain ⟨hb, rfl⟩ := hP
        refine v_if_eq (pc := 18) cx 24 dX5_countStorms_18 rfl (by omega) (fun c18 => ?_) (fun c18 => ?_)
        · refine v_iinc (pc := 24) cx ga3 (sa3 rfl) dX5_countStorms_24 ?_
          refine v_goto (pc := 27) cx 4 dX5_countStorms_27 rfl ?_
          rcases hb with ⟨hb, -⟩ | ⟨-, hb⟩
          · omega
          · rw [← cnt_n hb]
            exact ih (i + 1) (by omega) (by omega)
        · refine v_iinc (pc := 21) cx ga2 (sa2 rfl) dX5_countStorms_21 ?_
          refine v_iinc (pc := 24) cx ga3 (sa3 rfl) dX5_countStorms_24 ?_
          refine v_goto (pc := 27) cx 4 dX5_countStorms_27 rfl ?_
          rcases hb with ⟨-, hb⟩ | ⟨hb, -⟩
          · rw [show ((cnt t gap i : Int) + 1) = ((cnt t gap i + 1 : Nat) : Int) from rfl, ← cnt_b hb]
            exact ih (i + 1) (by omega) (by omega)
          · omega
  refine v_iconst (pc := 0) cx dX5_countStorms_0 ?_
  refine v_istore_n (pc := 1) cx rfl (sa2 rfl) dX5_countStorms_1 ?_
  refine v_iconst (pc := 2) cx dX5_countStorms_2 ?_
  refine v_istore_n (pc := 3) cx rfl (sa3 rfl) dX5_countStorms_3 ?_
  exact loop (m + 1) 0 (by omega) (by omega)
set_option maxRecDepth 100000 in
set_option maxHeartbeats 4000000 in
theorem c_Mk_firstOfStorm (lc : Launch) (G : Gc) (E : Wd) (nh : Nat) {o m : Nat} {k gap : Int} {t p v : Nat → Int} (h : rMk G E o (m : Int) t p v) (hm : m ≤ 60) (hT : okT t m) (hg : 1 ≤ gap ∧ gap ≤ 1000) (hk : -2147483648 ≤ k ∧ k < 2147483648) : CI lc G 3 yX5_firstOfStorm cX5_firstOfStorm 5 .int [.ref (gb G + o), .int (iI k), .int (iI gap)] E nh 0 0 (fun v E' => ((∃ f : Nat, f < m ∧ beg t gap f ∧ (cnt t gap f : Int) = k ∧ v = f) ∨ (v = -1 ∧ ∀ f : Nat, f < m → beg t gap f → (cnt t gap f : Int) ≠ k)) ∧ E' = E) := by
  refine CI.mk (by decide +kernel) rfl (Nat.le_of_ble_eq_true rfl) ?_
  intro X hG hL cx hR hI
  subst hG; subst hL
  show V X E (nh, 0, 0) 0 [some (.ref (gb (fG X) + o)), some (.int (iI k)), some (.int (iI gap)), none, none] []
  obtain ⟨h0, ht, hp, hv⟩ := id h
  have loop : ∀ (d i : Nat), i ≤ m → m - i < d → (∀ f : Nat, f < i → beg t gap f → (cnt t gap f : Int) ≠ k) → V X E (nh, 0, 0) 5 [some (.ref (gb (fG X) + o)), some (.int (iI k)), some (.int (iI gap)), some (.int (iI (cnt t gap i : Int))), some (.int (iI (i : Int)))] [] := by
    intro d
    induction d with
    | zero => intro k hk hd; omega
    | succ d ih =>
      intro i hi hd hno
      have hcl := cnt_le t gap i
      refine v_iload (pc := 5) cx ga4 dX5_firstOfStorm_5 ?_
      refine v_aload_n (pc := 7) cx rfl ga0 dX5_firstOfStorm_7 ?_
      refine v_getfield (pc := 8) cx flX5_25 (by assumption) gf3 dX5_firstOfStorm_8 ?_
      refine v_icmp_ge (pc := 11) cx 41 dX5_firstOfStorm_11 rfl (by omega) (fun c11 => ?_) (fun c11 => ?_)
      · refine v_iconst (pc := 41) cx dX5_firstOfStorm_41 ?_
        refine v_ireturn (pc := 42) cx hI rfl ?_ dX5_firstOfStorm_42
        exact ⟨Or.inr ⟨rfl, fun f hf => hno f (by omega)⟩, rfl⟩
      · refine v_aload_n (pc := 14) cx rfl ga0 dX5_firstOfStorm_14 ?_
        refine v_iload (pc := 15) cx ga4 dX5_firstOfStorm_15 ?_
        refine v_iload_n (pc := 17) cx rfl ga2 dX5_firstOfStorm_17 ?_
        refine v_callVI (pc := 18) cx hR (c_Mk_beginsStorm _ _ _ _ h hm hT (by omega) hg) mlX5_51 (by decide) (by assumption) rfl rfl rfl (Nat.le_of_ble_eq_true rfl) ⟨Nat.le_refl _, Nat.le_refl _⟩ dX5_firstOfStorm_18 (fun v2 E2 hP => ?_)
        obtain ⟨hb, rfl⟩ := hP
        refine v_if_eq (pc := 21) cx 35 dX5_firstOfStorm_21 rfl (by omega) (fun c21 => ?_) (fun c21 => ?_)
        · refine v_iinc (pc := 35) cx ga4 (sa4 rfl) dX5_firstOfStorm_35 ?_
          refine v_goto (pc := 38) cx 5 dX5_firstOfStorm_38 rfl ?_
          rcases hb with ⟨hb, -⟩ | ⟨-, hb⟩
          · omega
          · rw [← cnt_n hb]
            refine ih (i + 1) (by omega) (by omega) (fun f hf hbf => ?_)
            by_cases e : f = i
            · exact absurd (e ▸ hbf) hb
            · exact hno f (by omega) hbf
        · rcases hb with ⟨-, hb⟩ | ⟨hb, -⟩
          · refine v_iload_n (pc := 24) cx rfl ga3 dX5_firstOfStorm_24 ?_
            refine v_iload_n (pc := 25) cx rfl ga1 dX5_firstOfStorm_25 ?_
            refine v_icmp_ne (pc := 26) cx 32 dX5_firstOfStorm_26 rfl (by omega) (fun c26 => ?_) (fun c26 => ?_)
            · refine v_iinc (pc := 32) cx ga3 (sa3 rfl) dX5_firstOfStorm_32 ?_
              refine v_iinc (pc := 35) cx ga4 (sa4 rfl) dX5_firstOfStorm_35 ?_
              refine v_goto (pc := 38) cx 5 dX5_firstOfStorm_38 rfl ?_
              rw [show ((cnt t gap i : Int) + 1) = ((cnt t gap i + 1 : Nat) : Int) from rfl, ← cnt_b hb]
              refine ih (i + 1) (by omega) (by omega) (fun f hf hbf => ?_)
              by_cases e : f = i
              · rw [e]; exact c26
              · exact hno f (by omega) hbf
            · refine v_iload (pc := 29) cx ga4 dX5_firstOfStorm_29 ?_
              refine v_ireturn (pc := 31) cx hI rfl ?_ dX5_firstOfStorm_31
              exact ⟨Or.inl ⟨i, by omega, hb, c26, rfl⟩, rfl⟩
          · omega
  refine v_iconst (pc := 0) cx dX5_firstOfStorm_0 ?_
  refine v_istore_n (pc := 1) cx rfl (sa3 rfl) dX5_firstOfStorm_1 ?_
  refine v_iconst (pc := 2) cx dX5_firstOfStorm_2 ?_
  refine v_istore (pc := 3) cx (sa4 rfl) dX5_firstOfStorm_3 ?_
  exact loop (m + 1) 0 (by omega) (by omega) (fun f hf => by omega)
set_option maxRecDepth 100000 in
set_option maxHeartbeats 4000000 in
theorem c_Mk_endOfStorm (lc : Launch) (G : Gc) (E : Wd) (nh : Nat) {o m f : Nat} {gap : Int} {t p v : Nat → Int} (h : rMk G E o (m : Int) t p v) (hm : m ≤ 60) (hT : okT t m) (hg : 1 ≤ gap ∧ gap ≤ 1000) (hf : f < m) : CI lc G 3 yX5_endOfStorm cX5_endOfStorm 4 .int [.ref (gb G + o), .int (iI (f : Int)), .int (iI gap)] E nh 0 0 (fun v E' => (∃ e : Nat, f < e ∧ e ≤ m ∧ (∀ j : Nat, f < j → j < e → ¬ beg t gap j) ∧ (e = m ∨ beg t gap e) ∧ v = e) ∧ E' = E) := by
  refine CI.mk (by decide +kernel) rfl (Nat.le_of_ble_eq_true rfl) ?_
  intro X hG hL cx hR hI
  subst hG; subst hL
  show V X E (nh, 0, 0) 0 [some (.ref (gb (fG X) + o)), some (.int (iI (f : Int))), some (.int (iI gap)), none] []
  obtain ⟨h0, ht, hp, hv⟩ := id h
  have loop : ∀ (d i : Nat), f + 1 ≤ i → i ≤ m → m - i < d → (∀ j : Nat, f < j → j < i → ¬ beg t gap j) → V X E (nh, 0, 0) 4 [some (.ref (gb (fG X) + o)), some (.int (iI (f : Int))), some (.int (iI gap)), some (.int (iI (i : Int)))] [] := by
    intro d
    induction d with
    | zero => intro k hk hd; omega
    | succ d ih =>
      intro i hi1 hi hd hno
      refine v_iload_n (pc := 4) cx rfl ga3 dX5_endOfStorm_4 ?_
      refine v_aload_n (pc := 5) cx rfl ga0 dX5_endOfStorm_5 ?_
      refine v_getfield (pc := 6) cx flX5_25 (by assumption) gf3 dX5_endOfStorm_6 ?_
      refine v_icmp_ge (pc := 9) cx 29 dX5_endOfStorm_9 rfl (by omega) (fun c9 => ?_) (fun c9 => ?_)
      · refine v_aload_n (pc := 29) cx rfl ga0 dX5_endOfStorm_29 ?_
        refine v_getfield (pc := 30) cx flX5_25 (by assumption) gf3 dX5_endOfStorm_30 ?_
        refine v_ireturn (pc := 33) cx hI rfl ?_ dX5_endOfStorm_33
        exact ⟨⟨m, hf, Nat.le_refl _, fun j hj1 hj2 => hno j hj1 (by omega), Or.inl rfl, rfl⟩, rfl⟩
      · refine v_aload_n (pc := 12) cx rfl ga0 dX5_endOfStorm_12 ?_
        refine v_iload_n (pc := 13) cx rfl ga3 dX5_endOfStorm_13 ?_
        refine v_iload_n (pc := 14) cx rfl ga2 dX5_endOfStorm_14 ?_
        refine v_callVI (pc := 15) cx hR (c_Mk_beginsStorm _ _ _ _ h hm hT (by omega) hg) mlX5_51 (by decide) (by assumption) rfl rfl rfl (Nat.le_of_ble_eq_true rfl) ⟨Nat.le_refl _, Nat.le_refl _⟩ dX5_endOfStorm_15 (fun v2 E2 hP => ?_)
        obtain ⟨hb, rfl⟩ := hP
        refine v_if_eq (pc := 18) cx 23 dX5_endOfStorm_18 rfl (by omega) (fun c18 => ?_) (fun c18 => ?_)
        · refine v_iinc (pc := 23) cx ga3 (sa3 rfl) dX5_endOfStorm_23 ?_
          refine v_goto (pc := 26) cx 4 dX5_endOfStorm_26 rfl ?_
          rcases hb with ⟨hb, -⟩ | ⟨-, hb⟩
          · omega
          · refine ih (i + 1) (by omega) (by omega) (by omega) (fun j hj1 hj2 hbj => ?_)
            by_cases e : j = i
            · exact absurd (e ▸ hbj) hb
            · exact hno j hj1 (by omega) hbj
        · rcases hb with ⟨-, hb⟩ | ⟨hb, -⟩
          · refine v_iload_n (pc := 21) cx rfl ga3 dX5_endOfStorm_21 ?_
            refine v_ireturn (pc := 22) cx hI rfl ?_ dX5_endOfStorm_22
            exact ⟨⟨i, by omega, hi, hno, Or.inr hb, rfl⟩, rfl⟩
          · omega
  refine v_iload_n (pc := 0) cx rfl ga1 dX5_endOfStorm_0 ?_
  refine v_iconst (pc := 1) cx dX5_endOfStorm_1 ?_
  refine v_iadd (pc := 2) cx dX5_endOfStorm_2 ?_
  refine v_istore_n (pc := 3) cx rfl (sa3 rfl) dX5_endOfStorm_3 ?_
  exact loop (m + 1) (f + 1) (by omega) (by omega) (by omega) (fun j hj1 hj2 => by omega)
set_option maxRecDepth 100000 in
set_option maxHeartbeats 4000000 in
theorem c_Mk_loss (lc : Launch) (G : Gc) (E : Wd) (nh : Nat) {o m f e : Nat} {c : Int} {t p v : Nat → Int} (h : rMk G E o (m : Int) t p v) (hm : m ≤ 60) (hT : okT t m) (hf : f < e) (he : e ≤ m) (hc : 0 ≤ c ∧ c ≤ 10000) : CI lc G 2 yX5_lossBetweenTips cX5_lossBetweenTips 6 .int [.ref (gb G + o), .int (iI (f : Int)), .int (iI (e : Int)), .int (iI c)] E nh 0 0 (fun v E' => v = lossTo t c f (e - f - 1) ∧ E' = E) := by
  refine CI.mk (by decide +kernel) rfl (Nat.le_of_ble_eq_true rfl) ?_
  intro X hG hL cx hR hI
  subst hG; subst hL
  show V X E (nh, 0, 0) 0 [some (.ref (gb (fG X) + o)), some (.int (iI (f : Int))), some (.int (iI (e : Int))), some (.int (iI c)), none, none] []
  obtain ⟨h0, ht, hp, hv⟩ := id h
  have loop : ∀ (d i : Nat), f + 1 + i ≤ e → e - (f + 1 + i) < d → V X E (nh, 0, 0) 8 [some (.ref (gb (fG X) + o)), some (.int (iI (f : Int))), some (.int (iI (e : Int))), some (.int (iI c)), some (.int (iI (lossTo t c f i))), some (.int (iI ((f + 1 + i : Nat) : Int)))] [] := by
    intro d
    induction d with
    | zero => intro k hk hd; omega
    | succ d ih =>
      intro i hi hd
      refine v_iload (pc := 8) cx ga5 dX5_lossBetweenTips_8 ?_
      refine v_iload_n (pc := 10) cx rfl ga2 dX5_lossBetweenTips_10 ?_
      refine v_icmp_ge (pc := 11) cx 39 dX5_lossBetweenTips_11 rfl (by omega) (fun c11 => ?_) (fun c11 => ?_)
      · refine v_iload (pc := 39) cx ga4 dX5_lossBetweenTips_39 ?_
        refine v_ireturn (pc := 41) cx hI rfl ?_ dX5_lossBetweenTips_41
        rw [show e - f - 1 = i by omega]
        exact ⟨rfl, rfl⟩
      · refine v_iload (pc := 14) cx ga4 dX5_lossBetweenTips_14 ?_
        refine v_iload_n (pc := 16) cx rfl ga3 dX5_lossBetweenTips_16 ?_
        refine v_aload_n (pc := 17) cx rfl ga0 dX5_lossBetweenTips_17 ?_
        refine v_iload (pc := 18) cx ga5 dX5_lossBetweenTips_18 ?_
        refine v_iconst (pc := 20) cx dX5_lossBetweenTips_20 ?_
        refine v_isub (pc := 21) cx dX5_lossBetweenTips_21 ?_
        refine v_iload (pc := 22) cx ga5 dX5_lossBetweenTips_22 ?_
        rw [show (((f + 1 + i : Nat) : Int) - 1) = ((f + i : Nat) : Int) by omega]
        refine v_callVI (pc := 24) cx hR (c_Mk_ticksBetween _ _ _ _ h hm (by omega) (by omega)) mlX5_42 (by decide) (by assumption) rfl rfl rfl (Nat.le_of_ble_eq_true rfl) ⟨Nat.le_refl _, Nat.le_refl _⟩ dX5_lossBetweenTips_24 (fun v2 E2 hP => ?_)
        obtain ⟨rfl, rfl⟩ := hP
        have g2 := hT.1 (f + 1 + i) (by omega)
        have g3 := hT.1 (f + i) (by omega)
        have g4 := hT.2 (f + i) (f + 1 + i) (by omega) (by omega)
        refine v_callSI (pc := 27) cx hR (c_quotient _ _ _ _ (by omega)) mlX5_55 (by decide) rfl (Nat.le_of_ble_eq_true rfl) ⟨Nat.le_refl _, Nat.le_refl _⟩ dX5_lossBetweenTips_27 (fun v3 E3 hP => ?_)
        obtain ⟨rfl, rfl⟩ := hP
        refine v_iadd (pc := 30) cx dX5_lossBetweenTips_30 ?_
        refine v_istore (pc := 31) cx (sa4 rfl) dX5_lossBetweenTips_31 ?_
        refine v_iinc (pc := 33) cx ga5 (sa5 rfl) dX5_lossBetweenTips_33 ?_
        refine v_goto (pc := 36) cx 8 dX5_lossBetweenTips_36 rfl ?_
        exact ih (i + 1) (by omega) (by omega)
  refine v_iconst (pc := 0) cx dX5_lossBetweenTips_0 ?_
  refine v_istore (pc := 1) cx (sa4 rfl) dX5_lossBetweenTips_1 ?_
  refine v_iload_n (pc := 3) cx rfl ga1 dX5_lossBetweenTips_3 ?_
  refine v_iconst (pc := 4) cx dX5_lossBetweenTips_4 ?_
  refine v_iadd (pc := 5) cx dX5_lossBetweenTips_5 ?_
  refine v_istore (pc := 6) cx (sa5 rfl) dX5_lossBetweenTips_6 ?_
  exact loop (m + 1) 0 (by omega) (by omega)
set_option maxRecDepth 100000 in
set_option maxHeartbeats 4000000 in
theorem c_Mk_peak (lc : Launch) (G : Gc) (E : Wd) (nh : Nat) {o m f e : Nat} {t p v : Nat → Int} (h : rMk G E o (m : Int) t p v) (hm : m ≤ 60) (hT : okT t m) (hf : f < e) (he : e ≤ m) : CI lc G 2 yX5_peak cX5_peak 6 .int [.ref (gb G + o), .int (iI (f : Int)), .int (iI (e : Int))] E nh 0 0 (fun v E' => isPk t f e v ∧ E' = E) := by
  refine CI.mk (by decide +kernel) rfl (Nat.le_of_ble_eq_true rfl) ?_
  intro X hG hL cx hR hI
  subst hG; subst hL
  show V X E (nh, 0, 0) 0 [some (.ref (gb (fG X) + o)), some (.int (iI (f : Int))), some (.int (iI (e : Int))), none, none, none] []
  obtain ⟨h0, ht, hp, hv⟩ := id h
  have inner : ∀ (d a i : Nat) (pk : Int), f ≤ a → a ≤ i → i < e → i - a < d → (∀ j : Nat, f ≤ j → j < a → 30 ≤ t i - t j) → 0 ≤ pk → pk ≤ 60 →
      (∀ a' : Nat, f ≤ a' → a' ≤ i → t i - t a' < 30 → (∀ j : Nat, f ≤ j → j < a' → 30 ≤ t i - t j) → V X E (nh, 0, 0) 40 [some (.ref (gb (fG X) + o)), some (.int (iI (f : Int))), some (.int (iI (e : Int))), some (.int (iI pk)), some (.int (iI (a' : Int))), some (.int (iI (i : Int)))] []) →
      V X E (nh, 0, 0) 14 [some (.ref (gb (fG X) + o)), some (.int (iI (f : Int))), some (.int (iI (e : Int))), some (.int (iI pk)), some (.int (iI (a : Int))), some (.int (iI (i : Int)))] [] := by
    intro d
    induction d with
    | zero => intro a i pk hk hd; omega
    | succ d ih =>
      intro a i pk ha1 ha2 hi hd hno hp0 hp1 kk
      refine v_iload (pc := 14) cx ga4 dX5_peak_14 ?_
      refine v_iload (pc := 16) cx ga5 dX5_peak_16 ?_
      refine v_icmp_ge (pc := 18) cx 40 dX5_peak_18 rfl (by omega) (fun c18 => ?_) (fun c18 => ?_)
      · have e2 : a = i := by omega
        exact kk a ha1 ha2 (by rw [e2]; omega) hno
      · refine v_aload_n (pc := 21) cx rfl ga0 dX5_peak_21 ?_
        refine v_iload (pc := 22) cx ga4 dX5_peak_22 ?_
        refine v_iload (pc := 24) cx ga5 dX5_peak_24 ?_
        refine v_callVI (pc := 26) cx hR (c_Mk_ticksBetween _ _ _ _ h hm (by omega) (by omega)) mlX5_42 (by decide) (by assumption) rfl rfl rfl (Nat.le_of_ble_eq_true rfl) ⟨Nat.le_refl _, Nat.le_refl _⟩ dX5_peak_26 (fun v2 E2 hP => ?_)
        obtain ⟨rfl, rfl⟩ := hP
        have g2 := hT.1 i (by omega)
        have g3 := hT.1 a (by omega)
        refine v_bipush (pc := 29) cx (by decide) dX5_peak_29 ?_
        refine v_icmp_lt (pc := 31) cx 40 dX5_peak_31 rfl (by omega) (fun c31 => ?_) (fun c31 => ?_)
        · exact kk a ha1 ha2 c31 hno
        · refine v_iinc (pc := 34) cx ga4 (sa4 rfl) dX5_peak_34 ?_
          refine v_goto (pc := 37) cx 14 dX5_peak_37 rfl ?_
          refine ih (a + 1) i pk (by omega) (by omega) hi (by omega) (fun j hj1 hj2 => ?_) hp0 hp1 kk
          by_cases e2 : j = a
          · rw [e2]; exact c31
          · exact hno j hj1 (by omega)
  have loop : ∀ (d a i : Nat) (pk : Int), f ≤ a → a ≤ i → i ≤ e → e - i < d → (∀ j : Nat, f ≤ j → j < a → i < e → 30 ≤ t i - t j) → 0 ≤ pk → pk ≤ 60 →
      ((i = f ∧ pk = 0) ∨ (∃ x y : Nat, f ≤ x ∧ x ≤ y ∧ y < i ∧ t y - t x < 30 ∧ pk = (y : Int) - x + 1)) → (∀ x y : Nat, f ≤ x → x ≤ y → y < i → t y - t x < 30 → (y : Int) - x + 1 ≤ pk) →
      V X E (nh, 0, 0) 8 [some (.ref (gb (fG X) + o)), some (.int (iI (f : Int))), some (.int (iI (e : Int))), some (.int (iI pk)), some (.int (iI (a : Int))), some (.int (iI (i : Int)))] [] := by
    intro d
    induction d with
    | zero => intro a i pk hk hd; omega
    | succ d ih =>
      intro a i pk ha1 ha2 hi hd hno hp0 hp1 hat hup
      refine v_iload (pc := 8) cx ga5 dX5_peak_8 ?_
      refine v_iload_n (pc := 10) cx rfl ga2 dX5_peak_10 ?_
      refine v_icmp_ge (pc := 11) cx 58 dX5_peak_11 rfl (by omega) (fun c11 => ?_) (fun c11 => ?_)
      · refine v_iload_n (pc := 58) cx rfl ga3 dX5_peak_58 ?_
        refine v_ireturn (pc := 59) cx hI rfl ?_ dX5_peak_59
        have e2 : i = e := by omega
        subst e2
        rcases hat with ⟨e3, -⟩ | hat
        · omega
        · exact ⟨⟨hat, hup⟩, rfl⟩
      · refine inner (m + 1) a i pk ha1 ha2 (by omega) (by omega) (fun j hj1 hj2 => hno j hj1 hj2 (by omega)) hp0 hp1 (fun a' b1 b2 b3 b4 => ?_)
        refine v_iload_n (pc := 40) cx rfl ga3 dX5_peak_40 ?_
        refine v_iload (pc := 41) cx ga5 dX5_peak_41 ?_
        refine v_iload (pc := 43) cx ga4 dX5_peak_43 ?_
        refine v_isub (pc := 45) cx dX5_peak_45 ?_
        refine v_iconst (pc := 46) cx dX5_peak_46 ?_
        refine v_iadd (pc := 47) cx dX5_peak_47 ?_
        refine v_callSI (pc := 48) cx hR (c_max _ _ _ _ (by omega)) mlX5_46 (by decide) rfl (Nat.le_of_ble_eq_true rfl) ⟨Nat.le_refl _, Nat.le_refl _⟩ dX5_peak_48 (fun v3 E3 hP => ?_)
        obtain ⟨rfl, rfl⟩ := hP
        refine v_istore_n (pc := 51) cx rfl (sa3 rfl) dX5_peak_51 ?_
        refine v_iinc (pc := 52) cx ga5 (sa5 rfl) dX5_peak_52 ?_
        refine v_goto (pc := 55) cx 8 dX5_peak_55 rfl ?_
        refine ih a' (i + 1) (max pk ((i : Int) - a' + 1)) b1 (by omega) (by omega) (by omega) (fun j hj1 hj2 hi2 => ?_) (by omega) (by omega) ?_ (fun x y hx hxy hy hty => ?_)
        · have := b4 j hj1 hj2
          have := hT.2 i (i + 1) (by omega) (by omega)
          omega
        · right
          by_cases hmx : pk ≤ (i : Int) - a' + 1
          · exact ⟨a', i, b1, b2, by omega, b3, by omega⟩
          · rcases hat with ⟨e3, e4⟩ | ⟨x, y, q1, q2, q3, q4, q5⟩
            · omega
            · exact ⟨x, y, q1, q2, by omega, q4, by omega⟩
        · by_cases e2 : y = i
          · subst e2
            by_cases e3 : x < a'
            · have := b4 x hx e3
              omega
            · omega
          · have := hup x y hx hxy (by omega) hty
            omega
  refine v_iconst (pc := 0) cx dX5_peak_0 ?_
  refine v_istore_n (pc := 1) cx rfl (sa3 rfl) dX5_peak_1 ?_
  refine v_iload_n (pc := 2) cx rfl ga1 dX5_peak_2 ?_
  refine v_istore (pc := 3) cx (sa4 rfl) dX5_peak_3 ?_
  refine v_iload_n (pc := 5) cx rfl ga1 dX5_peak_5 ?_
  refine v_istore (pc := 6) cx (sa5 rfl) dX5_peak_6 ?_
  exact loop (m + 1) f f 0 (by omega) (by omega) (by omega) (by omega) (fun j hj1 hj2 => by omega) (by omega) (by omega) (Or.inl ⟨rfl, rfl⟩) (fun x y hx hxy hy => by omega)
set_option maxRecDepth 100000 in
set_option maxHeartbeats 4000000 in
theorem c_Mk_copyFrom (lc : Launch) (G : Gc) (E : Wd) (nh : Nat) {o oo : Nat} {m m' : Int} {b l r b' l' r' : Nat → Int} (h : rMk G E o m b l r) (h' : rMk G E oo m' b' l' r') (hd : o + 4 ≤ oo ∨ oo + 4 ≤ o) : CV lc G 2 yX5_copyFrom cX5_copyFrom 2 [.ref (gb G + o), .ref (gb G + oo)] E nh 0 0 (fun E' => (∃ b2 l2 r2 : Nat → Int, rMk G E' o m' b2 l2 r2 ∧ ∀ j, j < 60 → b2 j = b' j ∧ l2 j = l' j ∧ r2 j = r' j) ∧ Out E E' o (o + 4)) := by
  refine CV.mk (by decide +kernel) rfl (Nat.le_of_ble_eq_true rfl) ?_
  intro X hG hL cx hR hI hini
  subst hG; subst hL
  show V X E (nh, 0, 0) 0 [some (.ref (gb (fG X) + o)), some (.ref (gb (fG X) + oo))] []
  obtain ⟨h0, hb, hl, hr⟩ := id h
  obtain ⟨g0, gb1, gl, gr⟩ := id h'
  have hFr : Out E E o (o + 4) := fun j hj => rfl
  refine v_aload_n (pc := 0) cx rfl ga1 dX5_copyFrom_0 ?_
  refine v_getfield (pc := 1) cx flX5_9 (by assumption) gf0 dX5_copyFrom_1 ?_
  refine v_aload_n (pc := 4) cx rfl ga0 dX5_copyFrom_4 ?_
  refine v_getfield (pc := 5) cx flX5_9 (by assumption) gf0 dX5_copyFrom_5 ?_
  refine v_callSV (pc := 8) cx hR (c_copyRow _ _ _ _ (by omega) gb1 hb) mlX5_21 (by decide) rfl (Nat.le_of_ble_eq_true rfl) ⟨Nat.le_refl _, Nat.le_refl _⟩ dX5_copyFrom_8 (fun E1 hP => ?_)
  obtain ⟨hb, hF⟩ := hP
  replace h0 := (hF _ (by omega)).trans h0
  replace hl := (hF _ (by omega)).trans hl
  replace hr := (hF _ (by omega)).trans hr
  replace g0 := (hF _ (by omega)).trans g0
  replace gb1 := (hF _ (by omega)).trans gb1
  replace gl := (hF _ (by omega)).trans gl
  replace gr := (hF _ (by omega)).trans gr
  replace hFr := fun j hj => (hF j (by omega)).trans (hFr j hj)
  refine v_aload_n (pc := 11) cx rfl ga1 dX5_copyFrom_11 ?_
  refine v_getfield (pc := 12) cx flX5_15 (by assumption) gf1 dX5_copyFrom_12 ?_
  refine v_aload_n (pc := 15) cx rfl ga0 dX5_copyFrom_15 ?_
  refine v_getfield (pc := 16) cx flX5_15 (by assumption) gf1 dX5_copyFrom_16 ?_
  refine v_callSV (pc := 19) cx hR (c_copyRow _ _ _ _ (by omega) gl hl) mlX5_21 (by decide) rfl (Nat.le_of_ble_eq_true rfl) ⟨Nat.le_refl _, Nat.le_refl _⟩ dX5_copyFrom_19 (fun E1 hP => ?_)
  obtain ⟨hl, hF⟩ := hP
  replace h0 := (hF _ (by omega)).trans h0
  replace hb := (hF _ (by omega)).trans hb
  replace hr := (hF _ (by omega)).trans hr
  replace g0 := (hF _ (by omega)).trans g0
  replace gb1 := (hF _ (by omega)).trans gb1
  replace gl := (hF _ (by omega)).trans gl
  replace gr := (hF _ (by omega)).trans gr
  replace hFr := fun j hj => (hF j (by omega)).trans (hFr j hj)
  refine v_aload_n (pc := 22) cx rfl ga1 dX5_copyFrom_22 ?_
  refine v_getfield (pc := 23) cx flX5_18 (by assumption) gf2 dX5_copyFrom_23 ?_
  refine v_aload_n (pc := 26) cx rfl ga0 dX5_copyFrom_26 ?_
  refine v_getfield (pc := 27) cx flX5_18 (by assumption) gf2 dX5_copyFrom_27 ?_
  refine v_callSV (pc := 30) cx hR (c_copyRow _ _ _ _ (by omega) gr hr) mlX5_21 (by decide) rfl (Nat.le_of_ble_eq_true rfl) ⟨Nat.le_refl _, Nat.le_refl _⟩ dX5_copyFrom_30 (fun E1 hP => ?_)
  obtain ⟨hr, hF⟩ := hP
  replace h0 := (hF _ (by omega)).trans h0
  replace hb := (hF _ (by omega)).trans hb
  replace hl := (hF _ (by omega)).trans hl
  replace g0 := (hF _ (by omega)).trans g0
  replace gb1 := (hF _ (by omega)).trans gb1
  replace gl := (hF _ (by omega)).trans gl
  replace gr := (hF _ (by omega)).trans gr
  replace hFr := fun j hj => (hF j (by omega)).trans (hFr j hj)
  refine v_aload_n (pc := 33) cx rfl ga0 dX5_copyFrom_33 ?_
  refine v_aload_n (pc := 34) cx rfl ga1 dX5_copyFrom_34 ?_
  refine v_getfield (pc := 35) cx flX5_25 (by assumption) gf3 dX5_copyFrom_35 ?_
  refine v_putfield (pc := 38) cx fpX5_25 h0 ⟨rfl, rfl⟩ pf3 dX5_copyFrom_38 (fun E38 hE38 hF38 => ?_)
  replace h0 := hE38
  replace hb := (hF38 _ (by omega)).trans hb
  replace hl := (hF38 _ (by omega)).trans hl
  replace hr := (hF38 _ (by omega)).trans hr
  replace hFr := fun j hj => (hF38 j (by omega)).trans (hFr j hj)
  refine v_return (pc := 41) cx hI ?_ dX5_copyFrom_41
  exact ⟨⟨_, _, _, ⟨h0, hb, hl, hr⟩, fun j hj => ⟨cpyI_in hj, cpyI_in hj, cpyI_in hj⟩⟩, hFr⟩
end
section
/-! the abstract state: numbers (0 tick, 1 film, 2 content, 3 ticks of the tip, 4 reserve, 5 count, 6 fell, 7 tipped, 8 over, 9 lost, 10 dried, 11.. settings), showers, gears, marks -/
abbrev Sg : Type := (Nat → Int) × List (Int × Int × Int) × List (Int × Int) × List (Int × Int × Int)
def lst2 (f s : Nat → Int) (m : Nat) : List (Int × Int) := (List.range m).map (fun j => (f j, s j))
def rainL (L : List (Int × Int × Int)) (t : Int) : Int := (L.map (fun x => if x.1 ≤ t ∧ t < x.1 + x.2.1 then x.2.2 else 0)).sum
theorem rainTo_L {b l r : Nat → Int} {t : Int} : ∀ m, rainTo b l r t m = rainL (lst b l r m) t := by
  intro m
  induction m with
  | zero => rfl
  | succ m ih =>
    simp only [rainTo]
    rw [lst_succ, ih]
    simp [rainL, List.sum_append]
theorem lst_at {b l r : Nat → Int} {m j : Nat} (h : j < m) (d : Int × Int × Int) : (lst b l r m).getD j d = (b j, l j, r j) := by
  simp [lst, List.getD_eq_getElem?_getD, h]
theorem lst2_at {f s : Nat → Int} {m j : Nat} (h : j < m) (d : Int × Int) : (lst2 f s m).getD j d = (f j, s j) := by
  simp [lst2, List.getD_eq_getElem?_getD, h]
theorem lst2_len {f s : Nat → Int} {m : Nat} : (lst2 f s m).length = m := by simp [lst2]
theorem lst2_ext {f s f' s' : Nat → Int} {m : Nat} (h : ∀ j, j < m → f j = f' j ∧ s j = s' j) : lst2 f s m = lst2 f' s' m := by
  apply List.map_congr_left
  intro j hj
  obtain ⟨h1, h2⟩ := h j (List.mem_range.mp hj)
  rw [h1, h2]
abbrev d3 : Int × Int × Int := (0, 0, 0)
abbrev d2 : Int × Int := (0, 0)
theorem pL_ext {c : Int64} {f g : Nat → Int} : ∀ m, (∀ j, j < m → f j = g j) → pL c f m = pL c g m := by
  intro m
  induction m with
  | zero => intro _; rfl
  | succ m ih =>
    intro h
    simp only [pL]
    rw [ih (fun j hj => h j (by omega)), h m (by omega)]
theorem plc_ext {cn te : Int} {f s f' s' : Nat → Int} {m : Nat} (h : ∀ j, j < m → f j = f' j ∧ s j = s' j) : plc cn f s m te = plc cn f' s' m te := by
  unfold plc
  rw [pL_ext m (fun j hj => (h j hj).1), pL_ext m (fun j hj => (h j hj).2)]
def plG (ge : List (Int × Int)) (cn te : Int) : Int := plc cn (fun j => (ge.getD j d2).1) (fun j => (ge.getD j d2).2) ge.length te
theorem plG_lst {f s : Nat → Int} {m : Nat} {cn te : Int} : plG (lst2 f s m) cn te = plc cn f s m te := by
  unfold plG
  rw [lst2_len]
  exact plc_ext (fun j hj => by rw [lst2_at hj]; exact ⟨rfl, rfl⟩)
/-! one tick -/
def tkB (s : Nat → Int) (rain : Int) : BT := bS (rain - fTaken rain (s 13) (s 1)) (if rain = 0 then 1 else 0) (s 11) (s 12) (s 15) (s 2, s 3, s 7, s 8, s 9, 0)
def tkR (s : Nat → Int) (rain : Int) : Int := bR (rain - fTaken rain (s 13) (s 1)) (if rain = 0 then 1 else 0) (s 11) (s 15) (s 2, s 3, s 7, s 8, s 9, 0)
def tkS (s : Nat → Int) (rain : Int) : Nat → Int := fun i => match i with
  | 0 => s 0 + 1
  | 1 => s 1 + fTaken rain (s 13) (s 1) - fGone rain (s 13) (s 1) (s 14)
  | 2 => (tkB s rain).1
  | 3 => (tkB s rain).2.1
  | 4 => if 0 < s 4 then s 4 - 1 else s 4
  | 5 => if 0 < s 4 then s 5 + 1 else s 5
  | 6 => s 6 + rain
  | 7 => (tkB s rain).2.2.1
  | 8 => (tkB s rain).2.2.2.1
  | 9 => (tkB s rain).2.2.2.2.1
  | 10 => s 10 + fGone rain (s 13) (s 1) (s 14) + (tkB s rain).2.2.2.2.2
  | i + 11 => s (i + 11)
def tkRain (σ : Sg) : Int := rainL σ.2.1 (σ.1 0)
def tkTip (σ : Sg) : Int := tkR σ.1 (tkRain σ)
def tick (σ : Sg) : Sg := (tkS σ.1 (tkRain σ), σ.2.1.filter (fun x => decide (σ.1 0 + 1 < x.1 + x.2.1)), σ.2.2.1,
  if tkTip σ = -1 then σ.2.2.2 else addMk σ.2.2.2 (σ.1 0, plG σ.2.2.1 (σ.1 5) (σ.1 16), tkTip σ))
def ticks (σ : Sg) : Nat → Sg
  | 0 => σ
  | k + 1 => tick (ticks σ k)
def tips (σ : Sg) : Nat → Nat
  | 0 => 0
  | k + 1 => tips σ k + if tkTip (ticks σ k) = -1 then 0 else 1
/-! what always holds -/
def okSc (s : Nat → Int) : Prop :=
  (0 ≤ s 0 ∧ s 0 ≤ 5000) ∧ (0 ≤ s 1 ∧ s 1 ≤ 200) ∧ 0 ≤ s 2 ∧ (0 ≤ s 3 ∧ s 3 ≤ 20) ∧ (0 ≤ s 4 ∧ s 4 ≤ 2000) ∧ (0 ≤ s 5 ∧ s 5 ≤ s 0) ∧ (s 6 ≤ 2400 * s 0 ∧ 0 ≤ s 7 ∧ 0 ≤ s 8 ∧ 0 ≤ s 9 ∧ 0 ≤ s 10 ∧ s 6 = s 7 + s 8 + s 9 + s 10 + s 1 + s 2)
def okSe (s : Nat → Int) : Prop :=
  (20 ≤ s 11 ∧ s 11 ≤ 500) ∧ (0 ≤ s 12 ∧ s 12 ≤ 20) ∧ (0 ≤ s 13 ∧ s 13 ≤ 200) ∧ (0 ≤ s 14 ∧ s 14 ≤ 50) ∧ (0 ≤ s 15 ∧ s 15 ≤ 50) ∧ (10 ≤ s 16 ∧ s 16 ≤ 1000) ∧ (1 ≤ s 17 ∧ s 17 ≤ 2000) ∧ (1 ≤ s 18 ∧ s 18 ≤ 1000)
def okSh (L : List (Int × Int × Int)) : Prop := L.length ≤ 12 ∧ ∀ x ∈ L, (0 ≤ x.1 ∧ x.1 ≤ 5000) ∧ (1 ≤ x.2.1 ∧ x.2.1 ≤ 500) ∧ (1 ≤ x.2.2 ∧ x.2.2 ≤ 200)
def okGe (L : List (Int × Int)) : Prop := L.length ≤ 3 ∧ ∀ x ∈ L, (8 ≤ x.1 ∧ x.1 ≤ 120) ∧ (8 ≤ x.2 ∧ x.2 ≤ 120)
def okMk (L : List (Int × Int × Int)) (t0 : Int) : Prop := L.length ≤ 60 ∧ (∀ x ∈ L, 0 ≤ x.1 ∧ x.1 < t0) ∧ L.Pairwise (fun x y => x.1 < y.1)
def ok (σ : Sg) : Prop := okSc σ.1 ∧ okSe σ.1 ∧ okSh σ.2.1 ∧ okGe σ.2.2.1 ∧ okMk σ.2.2.2 (σ.1 0)
theorem rainL_bd {L : List (Int × Int × Int)} (h : ∀ x ∈ L, (0 ≤ x.1 ∧ x.1 ≤ 5000) ∧ (1 ≤ x.2.1 ∧ x.2.1 ≤ 500) ∧ (1 ≤ x.2.2 ∧ x.2.2 ≤ 200)) (t : Int) : 0 ≤ rainL L t ∧ rainL L t ≤ 200 * L.length := by
  induction L with
  | nil => exact ⟨Int.le_refl _, by simp [rainL]⟩
  | cons a L ih =>
    have h1 := h a List.mem_cons_self
    have h2 := ih (fun x hx => h x (List.mem_cons_of_mem _ hx))
    have e : rainL (a :: L) t = (if a.1 ≤ t ∧ t < a.1 + a.2.1 then a.2.2 else 0) + rainL L t := by simp [rainL]
    rw [e, List.length_cons]
    split <;> omega
theorem tkRain_bd {σ : Sg} (h : ok σ) : 0 ≤ tkRain σ ∧ tkRain σ ≤ 2400 := by
  have h1 := rainL_bd h.2.2.1.2 (σ.1 0)
  have h2 := h.2.2.1.1
  unfold tkRain
  omega
theorem tkS_se {s : Nat → Int} {rain : Int} (h : okSe s) : okSe (tkS s rain) := h
theorem fT_bd {rain cap c : Int} (hr : 0 ≤ rain) : 0 ≤ fTaken rain cap c ∧ fTaken rain cap c ≤ rain ∧ (cap ≤ c → fTaken rain cap c = 0) ∧ (c ≤ cap → c + fTaken rain cap c ≤ cap) := by
  unfold fTaken
  omega
theorem tkS_sc {s : Nat → Int} {rain : Int} (h : okSc s) (hs : okSe s) (hr : 0 ≤ rain ∧ rain ≤ 2400) (ht : s 0 < 5000) : okSc (tkS s rain) := by
  obtain ⟨h0, h1, h2, h3, h4, h5, h6⟩ := h
  obtain ⟨e1, e2, e3, e4, e5, e6, e7, e8⟩ := hs
  have f1 := fT_bd (cap := s 13) (c := s 1) hr.1
  have f2 : 0 ≤ fGone rain (s 13) (s 1) (s 14) ∧ fGone rain (s 13) (s 1) (s 14) ≤ s 1 + fTaken rain (s 13) (s 1) := by
    unfold fGone
    split <;> omega
  have f3 : 0 ≤ bGone (s 2) (rain - fTaken rain (s 13) (s 1)) (if rain = 0 then 1 else 0) (s 15) ∧ bGone (s 2) (rain - fTaken rain (s 13) (s 1)) (if rain = 0 then 1 else 0) (s 15) ≤ s 2 + (rain - fTaken rain (s 13) (s 1)) := by
    unfold bGone
    split <;> omega
  unfold okSc
  simp only [tkS, tkB, bS]
  generalize fTaken rain (s 13) (s 1) = tk at *
  generalize fGone rain (s 13) (s 1) (s 14) = go at *
  generalize bGone (s 2) (rain - tk) (if rain = 0 then 1 else 0) (s 15) = bg at *
  by_cases c1 : 0 < s 3
  · simp only [if_pos c1]
    by_cases c4 : 0 < s 4
    · simp only [if_pos c4]; omega
    · simp only [if_neg c4]; omega
  · simp only [if_neg c1]
    by_cases c2 : s 11 ≤ s 2 + (rain - tk) - bg
    · simp only [if_pos c2]
      by_cases c4 : 0 < s 4
      · simp only [if_pos c4]; omega
      · simp only [if_neg c4]; omega
    · simp only [if_neg c2]
      by_cases c4 : 0 < s 4
      · simp only [if_pos c4]; omega
      · simp only [if_neg c4]; omega
theorem ok_addMk {L : List (Int × Int × Int)} {t0 : Int} (h : okMk L t0) (h0 : 0 ≤ t0) (p v : Int) : okMk (addMk L (t0, p, v)) (t0 + 1) := by
  obtain ⟨h1, h2, h3⟩ := h
  have key : ∀ M : List (Int × Int × Int), M.length ≤ 59 → (∀ x ∈ M, 0 ≤ x.1 ∧ x.1 < t0) → M.Pairwise (fun x y => x.1 < y.1) → okMk (M ++ [(t0, p, v)]) (t0 + 1) := by
    intro M m1 m2 m3
    refine ⟨by simp; omega, fun x hx => ?_, ?_⟩
    · rcases List.mem_append.mp hx with hx | hx
      · have := m2 x hx; omega
      · rw [List.mem_singleton.mp hx]; exact ⟨h0, by show t0 < t0 + 1; omega⟩
    · rw [List.pairwise_append]
      refine ⟨m3, List.pairwise_singleton _ _, fun a ha b hb => ?_⟩
      rw [List.mem_singleton.mp hb]
      exact (m2 a ha).2
  unfold addMk
  split
  · rename_i e
    refine key _ (by simp; omega) (fun x hx => h2 x (List.mem_of_mem_tail hx)) h3.tail
  · exact key _ (by omega) h2 h3
theorem okMk_le {L : List (Int × Int × Int)} {t0 t1 : Int} (h : okMk L t0) (h1 : t0 ≤ t1) : okMk L t1 := ⟨h.1, fun x hx => by have := h.2.1 x hx; omega, h.2.2⟩
theorem ok_tick {σ : Sg} (h : ok σ) (ht : σ.1 0 < 5000) : ok (tick σ) := by
  have hr := tkRain_bd h
  obtain ⟨h1, h2, h3, h4, h5⟩ := h
  refine ⟨tkS_sc h1 h2 hr ht, tkS_se h2, ⟨Nat.le_trans (List.length_filter_le _ _) h3.1, fun x hx => h3.2 x (List.mem_filter.mp hx).1⟩, h4, ?_⟩
  show okMk (if tkTip σ = -1 then σ.2.2.2 else addMk σ.2.2.2 (σ.1 0, plG σ.2.2.1 (σ.1 5) (σ.1 16), tkTip σ)) (σ.1 0 + 1)
  split
  · exact okMk_le h5 (by omega)
  · exact ok_addMk h5 h1.1.1 _ _
theorem ticks_0 {σ : Sg} : ∀ k, (ticks σ k).1 0 = σ.1 0 + k := by
  intro k
  induction k with
  | zero => simp [ticks]
  | succ k ih =>
    show (ticks σ k).1 0 + 1 = _
    rw [ih]
    omega
theorem ok_ticks {σ : Sg} (h : ok σ) : ∀ k : Nat, σ.1 0 + k ≤ 5000 → ok (ticks σ k) := by
  intro k
  induction k with
  | zero => intro _; exact h
  | succ k ih =>
    intro hk
    exact ok_tick (ih (by omega)) (by rw [ticks_0]; omega)
theorem tips_le {σ : Sg} : ∀ k, tips σ k ≤ k := by
  intro k
  induction k with
  | zero => exact Nat.le_refl _
  | succ k ih => simp only [tips]; split <;> omega
theorem okT_of {t p v : Nat → Int} {m : Nat} {t0 : Int} (h : okMk (lst t p v m) t0) (h0 : t0 ≤ 5000) : okT t m := by
  obtain ⟨h1, h2, h3⟩ := h
  have hm : ∀ j, j < m → (t j, p j, v j) ∈ lst t p v m := fun j hj => List.mem_map.mpr ⟨j, List.mem_range.mpr hj, rfl⟩
  refine ⟨fun i hi => by have := h2 _ (hm i hi); simp only at this; omega, fun i j hij hj => ?_⟩
  rw [List.pairwise_iff_getElem] at h3
  have := h3 i j (by rw [lst_len]; omega) (by rw [lst_len]; exact hj) hij
  simpa [lst] using this
theorem okSh_at {b l r : Nat → Int} {m : Nat} (h : okSh (lst b l r m)) : ∀ j, j < m → (0 ≤ b j ∧ b j ≤ 5000) ∧ (1 ≤ l j ∧ l j ≤ 500) ∧ (1 ≤ r j ∧ r j ≤ 200) := fun j hj => h.2 (b j, l j, r j) (List.mem_map.mpr ⟨j, List.mem_range.mpr hj, rfl⟩)
theorem okGe_at {f s : Nat → Int} {m : Nat} (h : okGe (lst2 f s m)) : ∀ j, j < m → (8 ≤ f j ∧ f j ≤ 120) ∧ (8 ≤ s j ∧ s j ≤ 120) := fun j hj => h.2 (f j, s j) (List.mem_map.mpr ⟨j, List.mem_range.mpr hj, rfl⟩)
end
section
/-! the class's State: raw cells, and the abstract state that they hold -/
def rSt (G : Gc) (E : Wd) (o : Nat) (st : Nat → Int) (n : Nat) (b l r : Nat → Int) (fc fd : Int) (B : BT) (cr cc : Int) (ng : Nat) (gf gs : Nat → Int) (nm : Nat) (t p v : Nat → Int) (tick fell : Int) : Prop :=
  E o = some (.inr (9, [.ref (gb G + (o + 1)), .ref (gb G + (o + 2)), .ref (gb G + (o + 6)), .ref (gb G + (o + 7)), .ref (gb G + (o + 8)), .ref (gb G + (o + 9)), .ref (gb G + (o + 12)), .int (iI tick), .int (iI fell)])) ∧ E (o + 1) = some (AI G 8 st) ∧ rSh G E (o + 2) n b l r ∧ E (o + 6) = some (oFi fc fd) ∧ E (o + 7) = some (oBk B) ∧ E (o + 8) = some (oCl cr cc) ∧ rGe G E (o + 9) ng gf gs ∧ rMk G E (o + 12) nm t p v
theorem rSt.out {G : Gc} {E E' : Wd} {o : Nat} {st : Nat → Int} {n : Nat} {b l r : Nat → Int} {fc fd : Int} {B : BT} {cr cc : Int} {ng : Nat} {gf gs : Nat → Int} {nm : Nat} {t p v : Nat → Int} {tick fell : Int} {x y : Nat} (h : rSt G E o st n b l r fc fd B cr cc ng gf gs nm t p v tick fell) (hE : Out E E' x y) (hxy : o + 16 ≤ x ∨ y ≤ o) : rSt G E' o st n b l r fc fd B cr cc ng gf gs nm t p v tick fell := by
  obtain ⟨h0, h1, h2, h3, h4, h5, h6, h7⟩ := h
  exact ⟨(hE _ (by omega)).trans h0, (hE _ (by omega)).trans h1, h2.out hE (by omega), (hE _ (by omega)).trans h3, (hE _ (by omega)).trans h4, (hE _ (by omega)).trans h5, h6.out hE (by omega), h7.out hE (by omega)⟩
/-- what the raw cells hold -/
def hSt (σ : Sg) (st : Nat → Int) (n : Nat) (b l r : Nat → Int) (fc fd : Int) (B : BT) (cr cc : Int) (ng : Nat) (gf gs : Nat → Int) (nm : Nat) (t p v : Nat → Int) (tick fell : Int) : Prop :=
  (∀ j, j < 8 → st j = σ.1 (11 + j)) ∧ lst b l r n = σ.2.1 ∧ n ≤ 12 ∧ fc = σ.1 1 ∧ (B.1 = σ.1 2 ∧ B.2.1 = σ.1 3 ∧ B.2.2.1 = σ.1 7 ∧ B.2.2.2.1 = σ.1 8 ∧ B.2.2.2.2.1 = σ.1 9 ∧ fd + B.2.2.2.2.2 = σ.1 10) ∧ cr = σ.1 4 ∧ cc = σ.1 5 ∧ (lst2 gf gs ng = σ.2.2.1 ∧ ng ≤ 3) ∧ (lst t p v nm = σ.2.2.2 ∧ nm ≤ 60) ∧ tick = σ.1 0 ∧ fell = σ.1 6
def isS (G : Gc) (E : Wd) (o : Nat) (σ : Sg) : Prop :=
  ∃ (st : Nat → Int) (n : Nat) (b l r : Nat → Int) (fc fd : Int) (B : BT) (cr cc : Int) (ng : Nat) (gf gs : Nat → Int) (nm : Nat) (t p v : Nat → Int) (tick fell : Int), rSt G E o st n b l r fc fd B cr cc ng gf gs nm t p v tick fell ∧ hSt σ st n b l r fc fd B cr cc ng gf gs nm t p v tick fell
theorem isS.out {G : Gc} {E E' : Wd} {o : Nat} {σ : Sg} {x y : Nat} (h : isS G E o σ) (hE : Out E E' x y) (hxy : o + 16 ≤ x ∨ y ≤ o) : isS G E' o σ := by
  obtain ⟨st, n, b, l, r, fc, fd, B, cr, cc, ng, gf, gs, nm, t, p, v, tick, fell, h1, h2⟩ := h
  exact ⟨st, n, b, l, r, fc, fd, B, cr, cc, ng, gf, gs, nm, t, p, v, tick, fell, h1.out hE hxy, h2⟩
set_option maxRecDepth 100000 in
set_option maxHeartbeats 4000000 in
theorem c_St_drumPlace (lc : Launch) (G : Gc) (E : Wd) (nh : Nat) {o : Nat} {st : Nat → Int} {n : Nat} {b l r : Nat → Int} {fc fd : Int} {B : BT} {cr cc : Int} {ng : Nat} {gf gs : Nat → Int} {nm : Nat} {t p v : Nat → Int} {tick fell : Int} (h : rSt G E o st n b l r fc fd B cr cc ng gf gs nm t p v tick fell) (hm : ng ≤ 3) (hs0 : ∀ j, j < ng → 8 ≤ gs j ∧ gs j ≤ 120) (ht : 10 ≤ st 5 ∧ st 5 ≤ 1000) : CI lc G 1 yX9_drumPlace cX9_drumPlace 1 .int [.ref (gb G + o)] E nh 0 0 (fun v E' => v = plc cc gf gs ng (st 5) ∧ E' = E) := by
  refine CI.mk (by decide +kernel) rfl (Nat.le_of_ble_eq_true rfl) ?_
  intro X hG hL cx hR hI
  subst hG; subst hL
  show V X E (nh, 0, 0) 0 [some (.ref (gb (fG X) + o))] []
  obtain ⟨h0, h1, h2, h3, h4, h5, h6, h7⟩ := h
  refine v_aload_n (pc := 0) cx rfl ga0 dX9_drumPlace_0 ?_
  refine v_getfield (pc := 1) cx flX9_46 (by assumption) gf5 dX9_drumPlace_1 ?_
  refine v_aload_n (pc := 4) cx rfl ga0 dX9_drumPlace_4 ?_
  refine v_getfield (pc := 5) cx flX9_39 (by assumption) gf4 dX9_drumPlace_5 ?_
  refine v_getfield (pc := 8) cx flX9_118 (by assumption) gf1 dX9_drumPlace_8 ?_
  refine v_aload_n (pc := 11) cx rfl ga0 dX9_drumPlace_11 ?_
  refine v_getfield (pc := 12) cx flX9_9 (by assumption) gf0 dX9_drumPlace_12 ?_
  refine v_iconst (pc := 15) cx dX9_drumPlace_15 ?_
  refine v_iaload (pc := 16) cx (5) (by assumption) (by omega) dX9_drumPlace_16 ?_
  refine v_callVI (pc := 17) cx hR (c_Ge_placeOf _ _ _ _ h6 hm hs0 ht) mlX9_121 (by decide) h6.1 rfl rfl rfl (Nat.le_of_ble_eq_true rfl) ⟨Nat.le_refl _, Nat.le_refl _⟩ dX9_drumPlace_17 (fun v2 E2 hP => ?_)
  obtain ⟨rfl, rfl⟩ := hP
  refine v_ireturn (pc := 20) cx hI rfl ?_ dX9_drumPlace_20
  exact ⟨rfl, rfl⟩
theorem bS_dr {rain d cap tt dg : Int} {c tl ti ov lo dr : Int} : bS rain d cap tt dg (c, tl, ti, ov, lo, dr) = ((bS rain d cap tt dg (c, tl, ti, ov, lo, 0)).1, (bS rain d cap tt dg (c, tl, ti, ov, lo, 0)).2.1, (bS rain d cap tt dg (c, tl, ti, ov, lo, 0)).2.2.1, (bS rain d cap tt dg (c, tl, ti, ov, lo, 0)).2.2.2.1, (bS rain d cap tt dg (c, tl, ti, ov, lo, 0)).2.2.2.2.1, dr + (bS rain d cap tt dg (c, tl, ti, ov, lo, 0)).2.2.2.2.2) := by
  unfold bS
  simp only
  split
  · simp
  · split <;> simp
theorem bR_dr {rain d cap dg : Int} {c tl ti ov lo dr : Int} : bR rain d cap dg (c, tl, ti, ov, lo, dr) = bR rain d cap dg (c, tl, ti, ov, lo, 0) := rfl
set_option maxRecDepth 100000 in
set_option maxHeartbeats 4000000 in
theorem c_St_passTick (lc : Launch) (G : Gc) (E : Wd) (nh : Nat) {o : Nat} {σ : Sg} (h : isS G E o σ) (hk : ok σ) (ht : σ.1 0 < 5000) : CI lc G 3 yX9_passTick cX9_passTick 4 .boolean [.ref (gb G + o)] E nh 0 0 (fun v E' => ((v = 1 ∧ tkTip σ ≠ -1) ∨ (v = 0 ∧ tkTip σ = -1)) ∧ isS G E' o (tick σ) ∧ Out E E' o (o + 16)) := by
  refine CI.mk (by decide +kernel) rfl (Nat.le_of_ble_eq_true rfl) ?_
  intro X hG hL cx hR hI
  subst hG; subst hL
  show V X E (nh, 0, 0) 0 [some (.ref (gb (fG X) + o)), none, none, none] []
  obtain ⟨st, n, b, l, r, fc, fd, B, cr, cn, ng, gf, gs, nm, t, p, v, tk, fell, ⟨h0, h1, h2, h3, h4, h5, h6, h7⟩, q1, q2, q3, q4, q5, q6, q7, q8, q9, q10, q11⟩ := h
  obtain ⟨c, tl, ti, ov, lo, bd⟩ := B
  obtain ⟨s, sh, ge, mk⟩ := σ
  simp only at q1 q2 q4 q5 q6 q7 q8 q9 q10 q11 ht
  obtain ⟨q51, q52, q53, q54, q55, q56⟩ := q5
  obtain ⟨q8, q8n⟩ := q8
  obtain ⟨q9, q9n⟩ := q9
  subst q2; subst q8; subst q9; subst q4; subst q51; subst q52; subst q53; subst q54; subst q55; subst q6; subst q7; subst q10; subst q11
  have hrb := tkRain_bd hk
  obtain ⟨⟨k0, k1, k2, k3, k4, k5, k6⟩, ⟨e1, e2, e3, e4, e5, e6, e7, e8⟩, k8, k9, k10⟩ := hk
  simp only at k0 k1 k2 k3 k4 k5 k6 e1 e2 e3 e4 e5 e6 e7 e8 k8 k9 k10 hrb
  have a0 : st 0 = s 11 := q1 0 (by omega)
  have a1 : st 1 = s 12 := q1 1 (by omega)
  have a2 : st 2 = s 13 := q1 2 (by omega)
  have a3 : st 3 = s 14 := q1 3 (by omega)
  have a4 : st 4 = s 15 := q1 4 (by omega)
  have a5 : st 5 = s 16 := q1 5 (by omega)
  have hFr : Out E E o (o + 16) := fun j hj => rfl
  have hra : rainTo b l r (s 0) n = tkRain (s, lst b l r n, lst2 gf gs ng, lst t p v nm) := rainTo_L n
  generalize hrain : tkRain (s, lst b l r n, lst2 gf gs ng, lst t p v nm) = rain at hra hrb
  have f1 := fT_bd (cap := s 13) (c := s 1) hrb.1
  refine v_aload_n (pc := 0) cx rfl ga0 dX9_passTick_0 ?_
  refine v_getfield (pc := 1) cx flX9_18 (by assumption) gf1 dX9_passTick_1 ?_
  refine v_aload_n (pc := 4) cx rfl ga0 dX9_passTick_4 ?_
  refine v_getfield (pc := 5) cx flX9_83 (by assumption) gf7 dX9_passTick_5 ?_
  refine v_callVI (pc := 8) cx hR (c_Sh_rainIn _ _ _ _ h2 q3 (by omega) (okSh_at k8)) mlX9_94 (by decide) h2.1 rfl rfl rfl (Nat.le_of_ble_eq_true rfl) ⟨Nat.le_refl _, Nat.le_refl _⟩ dX9_passTick_8 (fun v1 E2 hP => ?_)
  obtain ⟨rfl, rfl⟩ := hP
  rw [hra]
  refine v_istore_n (pc := 11) cx rfl (sa1 rfl) dX9_passTick_11 ?_
  refine v_aload_n (pc := 12) cx rfl ga0 dX9_passTick_12 ?_
  refine v_dup (pc := 13) cx rfl dX9_passTick_13 ?_
  refine v_getfield (pc := 14) cx flX9_87 (by assumption) gf8 dX9_passTick_14 ?_
  refine v_iload_n (pc := 17) cx rfl ga1 dX9_passTick_17 ?_
  refine v_iadd (pc := 18) cx dX9_passTick_18 ?_
  refine v_putfield (pc := 19) cx fpX9_87 h0 ⟨rfl, rfl⟩ pf8 dX9_passTick_19 (fun E19 hE19 hF19 => ?_)
  have hF19' : Out _ E19 o (o + 1) := fun j hj => hF19 j (by omega)
  replace h0 := hE19
  replace h2 := h2.out (hF19') (by omega)
  replace h6 := h6.out (hF19') (by omega)
  replace h7 := h7.out (hF19') (by omega)
  replace h1 := ((hF19') _ (by omega)).trans h1
  replace h3 := ((hF19') _ (by omega)).trans h3
  replace h4 := ((hF19') _ (by omega)).trans h4
  replace h5 := ((hF19') _ (by omega)).trans h5
  replace hFr : Out _ _ _ _ := fun j hj => ((hF19') j (by omega)).trans (hFr j hj)
  refine v_aload_n (pc := 22) cx rfl ga0 dX9_passTick_22 ?_
  refine v_getfield (pc := 23) cx flX9_25 (by assumption) gf2 dX9_passTick_23 ?_
  refine v_iload_n (pc := 26) cx rfl ga1 dX9_passTick_26 ?_
  refine v_aload_n (pc := 27) cx rfl ga0 dX9_passTick_27 ?_
  refine v_getfield (pc := 28) cx flX9_9 (by assumption) gf0 dX9_passTick_28 ?_
  refine v_iconst (pc := 31) cx dX9_passTick_31 ?_
  refine v_iaload (pc := 32) cx (2) (by assumption) (by omega) dX9_passTick_32 ?_
  refine v_aload_n (pc := 33) cx rfl ga0 dX9_passTick_33 ?_
  refine v_getfield (pc := 34) cx flX9_9 (by assumption) gf0 dX9_passTick_34 ?_
  refine v_iconst (pc := 37) cx dX9_passTick_37 ?_
  refine v_iaload (pc := 38) cx (3) (by assumption) (by omega) dX9_passTick_38 ?_
  rw [a2, a3]
  refine v_callVI (pc := 39) cx hR (c_Fi_passTick _ _ _ _ h3 (by omega)) mlX9_98 (by decide) (by assumption) rfl rfl rfl (Nat.le_of_ble_eq_true rfl) ⟨Nat.le_refl _, Nat.le_refl _⟩ dX9_passTick_39 (fun v1 E3 hP => ?_)
  obtain ⟨rfl, hP1, hF⟩ := hP
  replace h3 := hP1
  replace h2 := h2.out (hF) (by omega)
  replace h6 := h6.out (hF) (by omega)
  replace h7 := h7.out (hF) (by omega)
  replace h0 := ((hF) _ (by omega)).trans h0
  replace h1 := ((hF) _ (by omega)).trans h1
  replace h4 := ((hF) _ (by omega)).trans h4
  replace h5 := ((hF) _ (by omega)).trans h5
  replace hFr : Out _ _ _ _ := fun j hj => ((hF) j (by omega)).trans (hFr j hj)
  generalize hleft : rain - fTaken rain (s 13) (s 1) = left
  have fin : ∀ (E' : Wd) (nm' : Nat) (t' p' v' : Nat → Int) (B' : BT) (tip : Int), -1 ≤ tip → tip ≤ 100000000 → tip = tkR s rain → B' = (bS left (if rain = 0 then 1 else 0) (s 11) (s 12) (s 15) (s 2, s 3, s 7, s 8, s 9, bd)) → lst t' p' v' nm' = (if tip = -1 then lst t p v nm else addMk (lst t p v nm) (s 0, plG (lst2 gf gs ng) (s 5) (s 16), tip)) → nm' ≤ 60 →
      E' o = E3 o → E' (o + 1) = E3 (o + 1) → rSh (fG X) E' (o + 2) n b l r → E' (o + 6) = E3 (o + 6) → E' (o + 7) = some (oBk B') → E' (o + 8) = E3 (o + 8) → rGe (fG X) E' (o + 9) ng gf gs → rMk (fG X) E' (o + 12) nm' t' p' v' → Out E2 E' o (o + 16) →
      V X E' (nh, 0, 0) 100 [some (.ref (gb (fG X) + o)), some (.int (iI rain)), some (.int (iI left)), some (.int (iI tip))] [] := by
    intro E' nm' t' p' v' B' tip ht1 ht2 htip hB hls hnm g0 g1 h2 g3 h4 g5 h6 h7 hFr
    replace h0 := g0.trans h0
    replace h1 := g1.trans h1
    replace h3 := g3.trans h3
    replace h5 := g5.trans h5
    refine v_aload_n (pc := 100) cx rfl ga0 dX9_passTick_100 ?_
    refine v_getfield (pc := 101) cx flX9_39 (by assumption) gf4 dX9_passTick_101 ?_
    refine v_callVV (pc := 104) cx hR (c_Cl_passTick _ _ _ _ h5 k4) mlX9_112 (by decide) (by assumption) rfl rfl rfl (Nat.le_of_ble_eq_true rfl) ⟨Nat.le_refl _, Nat.le_refl _⟩ dX9_passTick_104 (fun E4 hP => ?_)
    obtain ⟨hP1, hF⟩ := hP
    replace h5 := hP1
    replace h2 := h2.out (hF) (by omega)
    replace h6 := h6.out (hF) (by omega)
    replace h7 := h7.out (hF) (by omega)
    replace h0 := ((hF) _ (by omega)).trans h0
    replace h1 := ((hF) _ (by omega)).trans h1
    replace h3 := ((hF) _ (by omega)).trans h3
    replace h4 := ((hF) _ (by omega)).trans h4
    replace hFr : Out _ _ _ _ := fun j hj => ((hF) j (by omega)).trans (hFr j hj)
    refine v_aload_n (pc := 107) cx rfl ga0 dX9_passTick_107 ?_
    refine v_dup (pc := 108) cx rfl dX9_passTick_108 ?_
    refine v_getfield (pc := 109) cx flX9_83 (by assumption) gf7 dX9_passTick_109 ?_
    refine v_iconst (pc := 112) cx dX9_passTick_112 ?_
    refine v_iadd (pc := 113) cx dX9_passTick_113 ?_
    refine v_putfield (pc := 114) cx fpX9_83 h0 ⟨rfl, rfl⟩ pf7 dX9_passTick_114 (fun E114 hE114 hF114 => ?_)
    have hF114' : Out _ E114 o (o + 1) := fun j hj => hF114 j (by omega)
    replace h0 := hE114
    replace h2 := h2.out (hF114') (by omega)
    replace h6 := h6.out (hF114') (by omega)
    replace h7 := h7.out (hF114') (by omega)
    replace h1 := ((hF114') _ (by omega)).trans h1
    replace h3 := ((hF114') _ (by omega)).trans h3
    replace h4 := ((hF114') _ (by omega)).trans h4
    replace h5 := ((hF114') _ (by omega)).trans h5
    replace hFr : Out _ _ _ _ := fun j hj => ((hF114') j (by omega)).trans (hFr j hj)
    refine v_aload_n (pc := 117) cx rfl ga0 dX9_passTick_117 ?_
    refine v_getfield (pc := 118) cx flX9_18 (by assumption) gf1 dX9_passTick_118 ?_
    refine v_aload_n (pc := 121) cx rfl ga0 dX9_passTick_121 ?_
    refine v_getfield (pc := 122) cx flX9_83 (by assumption) gf7 dX9_passTick_122 ?_
    refine v_callVV (pc := 125) cx hR (c_Sh_removeEnded _ _ _ _ h2 q3 (by omega) (fun j hj => ⟨(okSh_at k8 j hj).1, (okSh_at k8 j hj).2.1⟩)) mlX9_114 (by decide) h2.1 rfl rfl rfl (Nat.le_of_ble_eq_true rfl) ⟨Nat.le_refl _, Nat.le_refl _⟩ dX9_passTick_125 (fun E5 hP => ?_)
    obtain ⟨⟨n', b', l', r', h2, hlf, hn'⟩, hF⟩ := hP
    replace h6 := h6.out (hF) (by omega)
    replace h7 := h7.out (hF) (by omega)
    replace h0 := ((hF) _ (by omega)).trans h0
    replace h1 := ((hF) _ (by omega)).trans h1
    replace h3 := ((hF) _ (by omega)).trans h3
    replace h4 := ((hF) _ (by omega)).trans h4
    replace h5 := ((hF) _ (by omega)).trans h5
    replace hFr : Out _ _ _ _ := fun j hj => ((hF) j (by omega)).trans (hFr j hj)
    have hres : isS (fG X) E5 o (tick (s, lst b l r n, lst2 gf gs ng, lst t p v nm)) := by
      refine ⟨st, n', b', l', r', _, _, B', _, _, ng, gf, gs, nm', t', p', v', _, _, ⟨h0, h1, h2, h3, h4, h5, h6, h7⟩, fun j hj => ?_, ?_, by omega, ?_, ?_, ?_, ?_, ⟨rfl, q8n⟩, ⟨?_, hnm⟩, ?_, ?_⟩
      · rw [q1 j hj]
        show s (11 + j) = tkS s _ (11 + j)
        rw [show 11 + j = j + 11 by omega]
        rfl
      · rw [hlf]; rfl
      · show _ = s 1 + fTaken (tkRain _) (s 13) (s 1) - fGone (tkRain _) (s 13) (s 1) (s 14)
        rw [hrain]
      · show B'.1 = (tkB s (tkRain _)).1 ∧ B'.2.1 = (tkB s (tkRain _)).2.1 ∧ B'.2.2.1 = (tkB s (tkRain _)).2.2.1 ∧ B'.2.2.2.1 = (tkB s (tkRain _)).2.2.2.1 ∧ B'.2.2.2.2.1 = (tkB s (tkRain _)).2.2.2.2.1 ∧ _ + B'.2.2.2.2.2 = s 10 + fGone (tkRain _) (s 13) (s 1) (s 14) + (tkB s (tkRain _)).2.2.2.2.2
        rw [hrain, hB, bS_dr]
        unfold tkB
        rw [hleft]
        refine ⟨rfl, rfl, rfl, rfl, rfl, ?_⟩
        simp only
        omega
      · rfl
      · rfl
      · rw [hls]
        show _ = (if tkR s (tkRain _) = -1 then _ else addMk _ (s 0, _, tkR s (tkRain _)))
        rw [hrain, htip]
      · rfl
      · show _ = s 6 + tkRain _
        rw [hrain]
    have htip2 : tkTip (s, lst b l r n, lst2 gf gs ng, lst t p v nm) = tip := by
      show tkR s (tkRain _) = tip
      rw [hrain, htip]
    refine v_iload_n (pc := 128) cx rfl ga3 dX9_passTick_128 ?_
    refine v_iconst (pc := 129) cx dX9_passTick_129 ?_
    refine v_icmp_eq (pc := 130) cx 137 dX9_passTick_130 rfl (by omega) (fun c130 => ?_) (fun c130 => ?_)
    · refine v_iconst (pc := 137) cx dX9_passTick_137 ?_
      refine v_ireturn (pc := 138) cx hI rfl ?_ dX9_passTick_138
      exact ⟨Or.inr ⟨rfl, htip2.trans c130⟩, hres, hFr⟩
    · refine v_iconst (pc := 133) cx dX9_passTick_133 ?_
      refine v_goto (pc := 134) cx 138 dX9_passTick_134 rfl ?_
      refine v_ireturn (pc := 138) cx hI rfl ?_ dX9_passTick_138
      exact ⟨Or.inl ⟨rfl, fun q => c130 (htip2.symm.trans q)⟩, hres, hFr⟩
  have mid : ∀ d : Int, d = (if rain = 0 then 1 else 0) → V X E3 (nh, 0, 0) 57 [some (.ref (gb (fG X) + o)), some (.int (iI rain)), some (.int (iI left)), none] [.int (iI d), .int (iI left), .ref (gb (fG X) + (o + 7))] := by
    intro d hd
    have hd2 : d = 0 ∨ d = 1 := by rw [hd]; split <;> omega
    refine v_aload_n (pc := 57) cx rfl ga0 dX9_passTick_57 ?_
    refine v_getfield (pc := 58) cx flX9_9 (by assumption) gf0 dX9_passTick_58 ?_
    refine v_iconst (pc := 61) cx dX9_passTick_61 ?_
    refine v_iaload (pc := 62) cx (0) (by assumption) (by omega) dX9_passTick_62 ?_
    refine v_aload_n (pc := 63) cx rfl ga0 dX9_passTick_63 ?_
    refine v_getfield (pc := 64) cx flX9_9 (by assumption) gf0 dX9_passTick_64 ?_
    refine v_iconst (pc := 67) cx dX9_passTick_67 ?_
    refine v_iaload (pc := 68) cx (1) (by assumption) (by omega) dX9_passTick_68 ?_
    refine v_aload_n (pc := 69) cx rfl ga0 dX9_passTick_69 ?_
    refine v_getfield (pc := 70) cx flX9_9 (by assumption) gf0 dX9_passTick_70 ?_
    refine v_iconst (pc := 73) cx dX9_passTick_73 ?_
    refine v_iaload (pc := 74) cx (4) (by assumption) (by omega) dX9_passTick_74 ?_
    rw [a0, a1, a4]
    refine v_callVI (pc := 75) cx hR (c_Bk_passTick _ _ _ _ h4 (by simp only; omega)) mlX9_101 (by decide) (by assumption) rfl rfl rfl (Nat.le_of_ble_eq_true rfl) ⟨Nat.le_refl _, Nat.le_refl _⟩ dX9_passTick_75 (fun v1 E4 hP => ?_)
    obtain ⟨rfl, hP1, hF⟩ := hP
    have hkeep : Out E3 E4 (o + 7) (o + 8) := hF
    replace h4 := hP1
    have htr : bR left d (s 11) (s 15) (s 2, s 3, s 7, s 8, s 9, bd) = tkR s rain := by rw [bR_dr, hd]; unfold tkR; rw [hleft]
    have hbd : -1 ≤ tkR s rain ∧ tkR s rain ≤ 100000000 := by
      rw [← htr]
      unfold bR
      simp only
      split
      · omega
      · have : 0 ≤ bGone (s 2) left d (s 15) := by unfold bGone; split <;> omega
        split <;> omega
    rw [htr]
    refine v_istore_n (pc := 78) cx rfl (sa3 rfl) dX9_passTick_78 ?_
    refine v_iload_n (pc := 79) cx rfl ga3 dX9_passTick_79 ?_
    refine v_iconst (pc := 80) cx dX9_passTick_80 ?_
    refine v_icmp_eq (pc := 81) cx 100 dX9_passTick_81 rfl (by omega) (fun c81 => ?_) (fun c81 => ?_)
    · refine fin E4 nm t p v _ (tkR s rain) hbd.1 hbd.2 rfl (by rw [hd]) ?_ q9n (hkeep _ (by omega)) (hkeep _ (by omega)) (h2.out hF (by omega)) (hkeep _ (by omega)) h4 (hkeep _ (by omega)) (h6.out hF (by omega)) (h7.out hF (by omega)) (fun j hj => (hF j (by omega)).trans (hFr j hj))
      rw [if_pos c81]
    · have h0k := (hkeep o (by omega)).trans h0
      refine v_aload_n (pc := 84) cx rfl ga0 dX9_passTick_84 ?_
      refine v_getfield (pc := 85) cx flX9_53 (by assumption) gf6 dX9_passTick_85 ?_
      refine v_aload_n (pc := 88) cx rfl ga0 dX9_passTick_88 ?_
      refine v_getfield (pc := 89) cx flX9_83 (by assumption) gf7 dX9_passTick_89 ?_
      refine v_aload_n (pc := 92) cx rfl ga0 dX9_passTick_92 ?_
      refine v_callVI (pc := 93) cx hR (c_St_drumPlace _ _ _ _ ⟨h0k, (hkeep _ (by omega)).trans h1, h2.out hF (by omega), (hkeep _ (by omega)).trans h3, h4, (hkeep _ (by omega)).trans h5, h6.out hF (by omega), h7.out hF (by omega)⟩ q8n (fun j hj => (okGe_at k9 j hj).2) (by omega)) mlX9_104 (by decide) (by assumption) rfl rfl rfl (Nat.le_of_ble_eq_true rfl) ⟨Nat.le_refl _, Nat.le_refl _⟩ dX9_passTick_93 (fun v5 E6 hP => ?_)
      obtain ⟨rfl, rfl⟩ := hP
      rw [a5]
      refine v_iload_n (pc := 96) cx rfl ga3 dX9_passTick_96 ?_
      refine v_callVV (pc := 97) cx hR (c_Mk_append _ _ _ _ (h7.out hF (by omega)) q9n) mlX9_108 (by decide) (h7.out hF (by omega)).1 rfl rfl rfl (Nat.le_of_ble_eq_true rfl) ⟨Nat.le_refl _, Nat.le_refl _⟩ dX9_passTick_97 (fun E7 hP => ?_)
      obtain ⟨⟨m', t', p', v', g7, hls, hm'⟩, hF2⟩ := hP
      refine fin E7 m' t' p' v' _ (tkR s rain) hbd.1 hbd.2 rfl (by rw [hd]) ?_ hm' ((hF2 _ (by omega)).trans (hkeep _ (by omega))) ((hF2 _ (by omega)).trans (hkeep _ (by omega))) ((h2.out hF (by omega)).out hF2 (by omega)) ((hF2 _ (by omega)).trans (hkeep _ (by omega))) ((hF2 _ (by omega)).trans h4) ((hF2 _ (by omega)).trans (hkeep _ (by omega))) ((h6.out hF (by omega)).out hF2 (by omega)) g7 (fun j hj => (hF2 j (by omega)).trans ((hF j (by omega)).trans (hFr j hj)))
      rw [if_neg c81, hls, plG_lst]
  refine v_istore_n (pc := 42) cx rfl (sa2 rfl) dX9_passTick_42 ?_
  refine v_aload_n (pc := 43) cx rfl ga0 dX9_passTick_43 ?_
  refine v_getfield (pc := 44) cx flX9_32 (by assumption) gf3 dX9_passTick_44 ?_
  refine v_iload_n (pc := 47) cx rfl ga2 dX9_passTick_47 ?_
  refine v_iload_n (pc := 48) cx rfl ga1 dX9_passTick_48 ?_
  refine v_if_ne (pc := 49) cx 56 dX9_passTick_49 rfl (by omega) (fun c49 => ?_) (fun c49 => ?_)
  · refine v_iconst (pc := 56) cx dX9_passTick_56 ?_
    exact mid 0 (by rw [if_neg c49])
  · refine v_iconst (pc := 52) cx dX9_passTick_52 ?_
    refine v_goto (pc := 53) cx 57 dX9_passTick_53 rfl ?_
    exact mid 1 (by rw [if_pos c49])
set_option maxRecDepth 100000 in
set_option maxHeartbeats 4000000 in
theorem c_St_passTicks (lc : Launch) (G : Gc) (E : Wd) (nh : Nat) {o k : Nat} {σ : Sg} (h : isS G E o σ) (hk : ok σ) (ht : σ.1 0 + k ≤ 5000) (hk1 : k ≤ 1000) : CI lc G 4 yX9_passTicks cX9_passTicks 4 .int [.ref (gb G + o), .int (iI (k : Int))] E nh 0 0 (fun v E' => v = (tips σ k : Int) ∧ isS G E' o (ticks σ k) ∧ Out E E' o (o + 16)) := by
  refine CI.mk (by decide +kernel) rfl (Nat.le_of_ble_eq_true rfl) ?_
  intro X hG hL cx hR hI
  subst hG; subst hL
  show V X E (nh, 0, 0) 0 [some (.ref (gb (fG X) + o)), some (.int (iI (k : Int))), none, none] []
  have loop : ∀ (d i : Nat) (E' : Wd), i ≤ k → k - i < d → isS (fG X) E' o (ticks σ i) → Out E E' o (o + 16) → V X E' (nh, 0, 0) 4 [some (.ref (gb (fG X) + o)), some (.int (iI (k : Int))), some (.int (iI (tips σ i : Int))), some (.int (iI (i : Int)))] [] := by
    intro d
    induction d with
    | zero => intro i E' hi hd; omega
    | succ d ih =>
      intro i E' hi hd h hFr
      refine v_iload_n (pc := 4) cx rfl ga3 dX9_passTicks_4 ?_
      refine v_iload_n (pc := 5) cx rfl ga1 dX9_passTicks_5 ?_
      refine v_icmp_ge (pc := 6) cx 25 dX9_passTicks_6 rfl (by omega) (fun c6 => ?_) (fun c6 => ?_)
      · refine v_iload_n (pc := 25) cx rfl ga2 dX9_passTicks_25 ?_
        refine v_ireturn (pc := 26) cx hI rfl ?_ dX9_passTicks_26
        have e : i = k := by omega
        subst e
        exact ⟨rfl, h, hFr⟩
      · have h00 := h
        obtain ⟨_, _, _, _, _, _, _, _, _, _, _, _, _, _, _, _, _, _, _, ⟨h0, -⟩, -⟩ := h00
        refine v_aload_n (pc := 9) cx rfl ga0 dX9_passTicks_9 ?_
        refine v_callVI (pc := 10) cx hR (c_St_passTick _ _ _ _ h (ok_ticks hk i (by omega)) (by rw [ticks_0]; omega)) mlX9_90 (by decide) (by assumption) rfl rfl rfl (Nat.le_of_ble_eq_true rfl) ⟨Nat.le_refl _, Nat.le_refl _⟩ dX9_passTicks_10 (fun v1 E2 hP => ?_)
        obtain ⟨hv, h2, hF⟩ := hP
        refine v_if_eq (pc := 13) cx 19 dX9_passTicks_13 rfl (by omega) (fun c13 => ?_) (fun c13 => ?_)
        · refine v_iinc (pc := 19) cx ga3 (sa3 rfl) dX9_passTicks_19 ?_
          refine v_goto (pc := 22) cx 4 dX9_passTicks_22 rfl ?_
          have e : tips σ (i + 1) = tips σ i := by simp only [tips]; rw [if_pos (by omega), Nat.add_zero]
          rw [← e]
          exact ih (i + 1) E2 (by omega) (by omega) h2 (fun j hj => (hF j hj).trans (hFr j hj))
        · refine v_iinc (pc := 16) cx ga2 (sa2 rfl) dX9_passTicks_16 ?_
          refine v_iinc (pc := 19) cx ga3 (sa3 rfl) dX9_passTicks_19 ?_
          refine v_goto (pc := 22) cx 4 dX9_passTicks_22 rfl ?_
          have e : tips σ (i + 1) = tips σ i + 1 := by simp only [tips]; rw [if_neg (by omega)]
          rw [show ((tips σ i : Int) + 1) = ((tips σ i + 1 : Nat) : Int) from rfl, ← e]
          exact ih (i + 1) E2 (by omega) (by omega) h2 (fun j hj => (hF j hj).trans (hFr j hj))
  refine v_iconst (pc := 0) cx dX9_passTicks_0 ?_
  refine v_istore_n (pc := 1) cx rfl (sa2 rfl) dX9_passTicks_1 ?_
  refine v_iconst (pc := 2) cx dX9_passTicks_2 ?_
  refine v_istore_n (pc := 3) cx rfl (sa3 rfl) dX9_passTicks_3 ?_
  exact loop (k + 1) 0 E (by omega) (by omega) h (fun _ _ => rfl)
end
section
theorem isS.obj {G : Gc} {E : Wd} {o : Nat} {σ : Sg} (h : isS G E o σ) : ∃ fs, E o = some (.inr (9, fs)) := by
  obtain ⟨_, _, _, _, _, _, _, _, _, _, _, _, _, _, _, _, _, _, _, ⟨h0, -⟩, -⟩ := h
  exact ⟨_, h0⟩
set_option maxRecDepth 100000 in
set_option maxHeartbeats 4000000 in
theorem c_St_accountOf (lc : Launch) (G : Gc) (E : Wd) (nh : Nat) {o : Nat} {σ : Sg} {w : Int} (h : isS G E o σ) (hw : 0 ≤ w ∧ w ≤ 4) : CI lc G 0 yX9_accountOf cX9_accountOf 2 .int [.ref (gb G + o), .int (iI w)] E nh 0 0 (fun v E' => v = σ.1 (6 + w.toNat) ∧ E' = E) := by
  refine CI.mk (by decide +kernel) rfl (Nat.le_of_ble_eq_true rfl) ?_
  intro X hG hL cx hR hI
  subst hG; subst hL
  show V X E (nh, 0, 0) 0 [some (.ref (gb (fG X) + o)), some (.int (iI w))] []
  obtain ⟨st, n, b, l, r, fc, fd, B, cr, cn, ng, gf, gs, nm, t, p, v, tk, fell, ⟨h0, h1, h2, h3, h4, h5, h6, h7⟩, q1, q2, q3, q4, ⟨q51, q52, q53, q54, q55, q56⟩, q6, q7, q8, q9, q10, q11⟩ := h
  refine v_iload_n (pc := 0) cx rfl ga1 dX9_accountOf_0 ?_
  rcases (show w = 0 ∨ w = 1 ∨ w = 2 ∨ w = 3 ∨ w = 4 by omega) with rfl | rfl | rfl | rfl | rfl
  · refine v_tableIn (pc := 1) cx 32 dX9_accountOf_1 (by omega) rfl rfl ?_
    refine v_aload_n (pc := 32) cx rfl ga0 dX9_accountOf_32 ?_
    refine v_getfield (pc := 33) cx flX9_87 (by assumption) gf8 dX9_accountOf_33 ?_
    refine v_ireturn (pc := 36) cx hI rfl ?_ dX9_accountOf_36
    exact ⟨q11, rfl⟩
  · refine v_tableIn (pc := 1) cx 37 dX9_accountOf_1 (by omega) rfl rfl ?_
    refine v_aload_n (pc := 37) cx rfl ga0 dX9_accountOf_37 ?_
    refine v_getfield (pc := 38) cx flX9_32 (by assumption) gf3 dX9_accountOf_38 ?_
    refine v_getfield (pc := 41) cx flX9_125 (by assumption) gf2 dX9_accountOf_41 ?_
    refine v_ireturn (pc := 44) cx hI rfl ?_ dX9_accountOf_44
    exact ⟨q53, rfl⟩
  · refine v_tableIn (pc := 1) cx 45 dX9_accountOf_1 (by omega) rfl rfl ?_
    refine v_aload_n (pc := 45) cx rfl ga0 dX9_accountOf_45 ?_
    refine v_getfield (pc := 46) cx flX9_32 (by assumption) gf3 dX9_accountOf_46 ?_
    refine v_getfield (pc := 49) cx flX9_128 (by assumption) gf3 dX9_accountOf_49 ?_
    refine v_ireturn (pc := 52) cx hI rfl ?_ dX9_accountOf_52
    exact ⟨q54, rfl⟩
  · refine v_tableIn (pc := 1) cx 53 dX9_accountOf_1 (by omega) rfl rfl ?_
    refine v_aload_n (pc := 53) cx rfl ga0 dX9_accountOf_53 ?_
    refine v_getfield (pc := 54) cx flX9_32 (by assumption) gf3 dX9_accountOf_54 ?_
    refine v_getfield (pc := 57) cx flX9_131 (by assumption) gf4 dX9_accountOf_57 ?_
    refine v_ireturn (pc := 60) cx hI rfl ?_ dX9_accountOf_60
    exact ⟨q55, rfl⟩
  · refine v_tableOut (pc := 1) cx 61 dX9_accountOf_1 (by omega) rfl ?_
    refine v_aload_n (pc := 61) cx rfl ga0 dX9_accountOf_61 ?_
    refine v_getfield (pc := 62) cx flX9_25 (by assumption) gf2 dX9_accountOf_62 ?_
    refine v_getfield (pc := 65) cx flX9_134 (by assumption) gf1 dX9_accountOf_65 ?_
    refine v_aload_n (pc := 68) cx rfl ga0 dX9_accountOf_68 ?_
    refine v_getfield (pc := 69) cx flX9_32 (by assumption) gf3 dX9_accountOf_69 ?_
    refine v_getfield (pc := 72) cx flX9_137 (by assumption) gf5 dX9_accountOf_72 ?_
    refine v_iadd (pc := 75) cx dX9_accountOf_75 ?_
    refine v_ireturn (pc := 76) cx hI rfl ?_ dX9_accountOf_76
    exact ⟨q56, rfl⟩
set_option maxRecDepth 100000 in
set_option maxHeartbeats 4000000 in
theorem c_St_copyFrom (lc : Launch) (G : Gc) (E : Wd) (nh : Nat) {o oo : Nat} {σ σ' : Sg} (h : isS G E o σ) (h' : isS G E oo σ') (hd : o + 16 ≤ oo ∨ oo + 16 ≤ o) : CV lc G 3 yX9_copyFrom cX9_copyFrom 2 [.ref (gb G + o), .ref (gb G + oo)] E nh 0 0 (fun E' => isS G E' o σ' ∧ Out E E' o (o + 16)) := by
  refine CV.mk (by decide +kernel) rfl (Nat.le_of_ble_eq_true rfl) ?_
  intro X hG hL cx hR hI hini
  subst hG; subst hL
  show V X E (nh, 0, 0) 0 [some (.ref (gb (fG X) + o)), some (.ref (gb (fG X) + oo))] []
  obtain ⟨st, n, b, l, r, fc, fd, B, cr, cn, ng, gf, gs, nm, t, p, v, tk, fell, ⟨h0, h1, h2, h3, h4, h5, h6, h7⟩, -⟩ := h
  obtain ⟨st', n', b', l', r', fc', fd', B', cr', cn', ng', gf', gs', nm', t', p', v', tk', fell', ⟨g0, g1, g2, g3, g4, g5, g6, g7⟩, q1, q2, q3, q4, q5, q6, q7, q8, q9, q10, q11⟩ := h'
  have hFr : Out E E o (o + 16) := fun j hj => rfl
  refine v_aload_n (pc := 0) cx rfl ga1 dX9_copyFrom_0 ?_
  refine v_getfield (pc := 1) cx flX9_9 (by assumption) gf0 dX9_copyFrom_1 ?_
  refine v_aload_n (pc := 4) cx rfl ga0 dX9_copyFrom_4 ?_
  refine v_getfield (pc := 5) cx flX9_9 (by assumption) gf0 dX9_copyFrom_5 ?_
  refine v_callSV (pc := 8) cx hR (c_copyRow _ _ _ _ (by omega) g1 h1) mlX9_60 (by decide) rfl (Nat.le_of_ble_eq_true rfl) ⟨Nat.le_refl _, Nat.le_refl _⟩ dX9_copyFrom_8 (fun E1 hP => ?_)
  obtain ⟨h1, hF0⟩ := hP
  have hF : Out _ E1 (o + 1) (o + 2) := fun j hj => hF0 j (by omega)
  replace h2 := h2.out (hF) (by omega)
  replace h6 := h6.out (hF) (by omega)
  replace h7 := h7.out (hF) (by omega)
  replace g2 := g2.out (hF) (by omega)
  replace g6 := g6.out (hF) (by omega)
  replace g7 := g7.out (hF) (by omega)
  replace h0 := ((hF) _ (by omega)).trans h0
  replace h3 := ((hF) _ (by omega)).trans h3
  replace h4 := ((hF) _ (by omega)).trans h4
  replace h5 := ((hF) _ (by omega)).trans h5
  replace g0 := ((hF) _ (by omega)).trans g0
  replace g1 := ((hF) _ (by omega)).trans g1
  replace g3 := ((hF) _ (by omega)).trans g3
  replace g4 := ((hF) _ (by omega)).trans g4
  replace g5 := ((hF) _ (by omega)).trans g5
  replace hFr : Out _ _ _ _ := fun j hj => ((hF) j (by omega)).trans (hFr j hj)
  refine v_aload_n (pc := 11) cx rfl ga0 dX9_copyFrom_11 ?_
  refine v_getfield (pc := 12) cx flX9_18 (by assumption) gf1 dX9_copyFrom_12 ?_
  refine v_aload_n (pc := 15) cx rfl ga1 dX9_copyFrom_15 ?_
  refine v_getfield (pc := 16) cx flX9_18 (by assumption) gf1 dX9_copyFrom_16 ?_
  refine v_callVV (pc := 19) cx hR (c_Sh_copyFrom _ _ _ _ h2 g2 (by omega)) mlX9_64 (by decide) h2.1 rfl rfl rfl (Nat.le_of_ble_eq_true rfl) ⟨Nat.le_refl _, Nat.le_refl _⟩ dX9_copyFrom_19 (fun E2 hP => ?_)
  obtain ⟨⟨b2, l2, r2, h2, e2⟩, hF⟩ := hP
  replace h6 := h6.out (hF) (by omega)
  replace h7 := h7.out (hF) (by omega)
  replace g2 := g2.out (hF) (by omega)
  replace g6 := g6.out (hF) (by omega)
  replace g7 := g7.out (hF) (by omega)
  replace h0 := ((hF) _ (by omega)).trans h0
  replace h1 := ((hF) _ (by omega)).trans h1
  replace h3 := ((hF) _ (by omega)).trans h3
  replace h4 := ((hF) _ (by omega)).trans h4
  replace h5 := ((hF) _ (by omega)).trans h5
  replace g0 := ((hF) _ (by omega)).trans g0
  replace g1 := ((hF) _ (by omega)).trans g1
  replace g3 := ((hF) _ (by omega)).trans g3
  replace g4 := ((hF) _ (by omega)).trans g4
  replace g5 := ((hF) _ (by omega)).trans g5
  replace hFr : Out _ _ _ _ := fun j hj => ((hF) j (by omega)).trans (hFr j hj)
  refine v_aload_n (pc := 22) cx rfl ga0 dX9_copyFrom_22 ?_
  refine v_getfield (pc := 23) cx flX9_25 (by assumption) gf2 dX9_copyFrom_23 ?_
  refine v_aload_n (pc := 26) cx rfl ga1 dX9_copyFrom_26 ?_
  refine v_getfield (pc := 27) cx flX9_25 (by assumption) gf2 dX9_copyFrom_27 ?_
  refine v_callVV (pc := 30) cx hR (c_Fi_copyFrom _ _ _ _ h3 g3 (by omega)) mlX9_68 (by decide) (by assumption) rfl rfl rfl (Nat.le_of_ble_eq_true rfl) ⟨Nat.le_refl _, Nat.le_refl _⟩ dX9_copyFrom_30 (fun E3 hP => ?_)
  obtain ⟨h3, hF⟩ := hP
  replace h2 := h2.out (hF) (by omega)
  replace h6 := h6.out (hF) (by omega)
  replace h7 := h7.out (hF) (by omega)
  replace g2 := g2.out (hF) (by omega)
  replace g6 := g6.out (hF) (by omega)
  replace g7 := g7.out (hF) (by omega)
  replace h0 := ((hF) _ (by omega)).trans h0
  replace h1 := ((hF) _ (by omega)).trans h1
  replace h4 := ((hF) _ (by omega)).trans h4
  replace h5 := ((hF) _ (by omega)).trans h5
  replace g0 := ((hF) _ (by omega)).trans g0
  replace g1 := ((hF) _ (by omega)).trans g1
  replace g3 := ((hF) _ (by omega)).trans g3
  replace g4 := ((hF) _ (by omega)).trans g4
  replace g5 := ((hF) _ (by omega)).trans g5
  replace hFr : Out _ _ _ _ := fun j hj => ((hF) j (by omega)).trans (hFr j hj)
  refine v_aload_n (pc := 33) cx rfl ga0 dX9_copyFrom_33 ?_
  refine v_getfield (pc := 34) cx flX9_32 (by assumption) gf3 dX9_copyFrom_34 ?_
  refine v_aload_n (pc := 37) cx rfl ga1 dX9_copyFrom_37 ?_
  refine v_getfield (pc := 38) cx flX9_32 (by assumption) gf3 dX9_copyFrom_38 ?_
  refine v_callVV (pc := 41) cx hR (c_Bk_copyFrom _ _ _ _ h4 g4 (by omega)) mlX9_71 (by decide) (by assumption) rfl rfl rfl (Nat.le_of_ble_eq_true rfl) ⟨Nat.le_refl _, Nat.le_refl _⟩ dX9_copyFrom_41 (fun E4 hP => ?_)
  obtain ⟨h4, hF⟩ := hP
  replace h2 := h2.out (hF) (by omega)
  replace h6 := h6.out (hF) (by omega)
  replace h7 := h7.out (hF) (by omega)
  replace g2 := g2.out (hF) (by omega)
  replace g6 := g6.out (hF) (by omega)
  replace g7 := g7.out (hF) (by omega)
  replace h0 := ((hF) _ (by omega)).trans h0
  replace h1 := ((hF) _ (by omega)).trans h1
  replace h3 := ((hF) _ (by omega)).trans h3
  replace h5 := ((hF) _ (by omega)).trans h5
  replace g0 := ((hF) _ (by omega)).trans g0
  replace g1 := ((hF) _ (by omega)).trans g1
  replace g3 := ((hF) _ (by omega)).trans g3
  replace g4 := ((hF) _ (by omega)).trans g4
  replace g5 := ((hF) _ (by omega)).trans g5
  replace hFr : Out _ _ _ _ := fun j hj => ((hF) j (by omega)).trans (hFr j hj)
  refine v_aload_n (pc := 44) cx rfl ga0 dX9_copyFrom_44 ?_
  refine v_getfield (pc := 45) cx flX9_39 (by assumption) gf4 dX9_copyFrom_45 ?_
  refine v_aload_n (pc := 48) cx rfl ga1 dX9_copyFrom_48 ?_
  refine v_getfield (pc := 49) cx flX9_39 (by assumption) gf4 dX9_copyFrom_49 ?_
  refine v_callVV (pc := 52) cx hR (c_Cl_copyFrom _ _ _ _ h5 g5 (by omega)) mlX9_74 (by decide) (by assumption) rfl rfl rfl (Nat.le_of_ble_eq_true rfl) ⟨Nat.le_refl _, Nat.le_refl _⟩ dX9_copyFrom_52 (fun E5 hP => ?_)
  obtain ⟨h5, hF⟩ := hP
  replace h2 := h2.out (hF) (by omega)
  replace h6 := h6.out (hF) (by omega)
  replace h7 := h7.out (hF) (by omega)
  replace g2 := g2.out (hF) (by omega)
  replace g6 := g6.out (hF) (by omega)
  replace g7 := g7.out (hF) (by omega)
  replace h0 := ((hF) _ (by omega)).trans h0
  replace h1 := ((hF) _ (by omega)).trans h1
  replace h3 := ((hF) _ (by omega)).trans h3
  replace h4 := ((hF) _ (by omega)).trans h4
  replace g0 := ((hF) _ (by omega)).trans g0
  replace g1 := ((hF) _ (by omega)).trans g1
  replace g3 := ((hF) _ (by omega)).trans g3
  replace g4 := ((hF) _ (by omega)).trans g4
  replace g5 := ((hF) _ (by omega)).trans g5
  replace hFr : Out _ _ _ _ := fun j hj => ((hF) j (by omega)).trans (hFr j hj)
  refine v_aload_n (pc := 55) cx rfl ga0 dX9_copyFrom_55 ?_
  refine v_getfield (pc := 56) cx flX9_46 (by assumption) gf5 dX9_copyFrom_56 ?_
  refine v_aload_n (pc := 59) cx rfl ga1 dX9_copyFrom_59 ?_
  refine v_getfield (pc := 60) cx flX9_46 (by assumption) gf5 dX9_copyFrom_60 ?_
  refine v_callVV (pc := 63) cx hR (c_Ge_copyFrom _ _ _ _ h6 g6 (by omega)) mlX9_77 (by decide) h6.1 rfl rfl rfl (Nat.le_of_ble_eq_true rfl) ⟨Nat.le_refl _, Nat.le_refl _⟩ dX9_copyFrom_63 (fun E6 hP => ?_)
  obtain ⟨⟨f6, s6, h6, e6⟩, hF⟩ := hP
  replace h2 := h2.out (hF) (by omega)
  replace h7 := h7.out (hF) (by omega)
  replace g2 := g2.out (hF) (by omega)
  replace g6 := g6.out (hF) (by omega)
  replace g7 := g7.out (hF) (by omega)
  replace h0 := ((hF) _ (by omega)).trans h0
  replace h1 := ((hF) _ (by omega)).trans h1
  replace h3 := ((hF) _ (by omega)).trans h3
  replace h4 := ((hF) _ (by omega)).trans h4
  replace h5 := ((hF) _ (by omega)).trans h5
  replace g0 := ((hF) _ (by omega)).trans g0
  replace g1 := ((hF) _ (by omega)).trans g1
  replace g3 := ((hF) _ (by omega)).trans g3
  replace g4 := ((hF) _ (by omega)).trans g4
  replace g5 := ((hF) _ (by omega)).trans g5
  replace hFr : Out _ _ _ _ := fun j hj => ((hF) j (by omega)).trans (hFr j hj)
  refine v_aload_n (pc := 66) cx rfl ga0 dX9_copyFrom_66 ?_
  refine v_getfield (pc := 67) cx flX9_53 (by assumption) gf6 dX9_copyFrom_67 ?_
  refine v_aload_n (pc := 70) cx rfl ga1 dX9_copyFrom_70 ?_
  refine v_getfield (pc := 71) cx flX9_53 (by assumption) gf6 dX9_copyFrom_71 ?_
  refine v_callVV (pc := 74) cx hR (c_Mk_copyFrom _ _ _ _ h7 g7 (by omega)) mlX9_80 (by decide) h7.1 rfl rfl rfl (Nat.le_of_ble_eq_true rfl) ⟨Nat.le_refl _, Nat.le_refl _⟩ dX9_copyFrom_74 (fun E7 hP => ?_)
  obtain ⟨⟨b7, l7, r7, h7, e7⟩, hF⟩ := hP
  replace h2 := h2.out (hF) (by omega)
  replace h6 := h6.out (hF) (by omega)
  replace g2 := g2.out (hF) (by omega)
  replace g6 := g6.out (hF) (by omega)
  replace g7 := g7.out (hF) (by omega)
  replace h0 := ((hF) _ (by omega)).trans h0
  replace h1 := ((hF) _ (by omega)).trans h1
  replace h3 := ((hF) _ (by omega)).trans h3
  replace h4 := ((hF) _ (by omega)).trans h4
  replace h5 := ((hF) _ (by omega)).trans h5
  replace g0 := ((hF) _ (by omega)).trans g0
  replace g1 := ((hF) _ (by omega)).trans g1
  replace g3 := ((hF) _ (by omega)).trans g3
  replace g4 := ((hF) _ (by omega)).trans g4
  replace g5 := ((hF) _ (by omega)).trans g5
  replace hFr : Out _ _ _ _ := fun j hj => ((hF) j (by omega)).trans (hFr j hj)
  refine v_aload_n (pc := 77) cx rfl ga0 dX9_copyFrom_77 ?_
  refine v_aload_n (pc := 78) cx rfl ga1 dX9_copyFrom_78 ?_
  refine v_getfield (pc := 79) cx flX9_83 (by assumption) gf7 dX9_copyFrom_79 ?_
  refine v_putfield (pc := 82) cx fpX9_83 h0 ⟨rfl, rfl⟩ pf7 dX9_copyFrom_82 (fun E82 hE82 hF82 => ?_)
  have hF' : Out _ E82 o (o + 1) := fun j hj => hF82 j (by omega)
  replace h0 := hE82
  replace h2 := h2.out (hF') (by omega)
  replace h6 := h6.out (hF') (by omega)
  replace h7 := h7.out (hF') (by omega)
  replace g2 := g2.out (hF') (by omega)
  replace g6 := g6.out (hF') (by omega)
  replace g7 := g7.out (hF') (by omega)
  replace h1 := ((hF') _ (by omega)).trans h1
  replace h3 := ((hF') _ (by omega)).trans h3
  replace h4 := ((hF') _ (by omega)).trans h4
  replace h5 := ((hF') _ (by omega)).trans h5
  replace g0 := ((hF') _ (by omega)).trans g0
  replace g1 := ((hF') _ (by omega)).trans g1
  replace g3 := ((hF') _ (by omega)).trans g3
  replace g4 := ((hF') _ (by omega)).trans g4
  replace g5 := ((hF') _ (by omega)).trans g5
  replace hFr : Out _ _ _ _ := fun j hj => ((hF') j (by omega)).trans (hFr j hj)
  refine v_aload_n (pc := 85) cx rfl ga0 dX9_copyFrom_85 ?_
  refine v_aload_n (pc := 86) cx rfl ga1 dX9_copyFrom_86 ?_
  refine v_getfield (pc := 87) cx flX9_87 (by assumption) gf8 dX9_copyFrom_87 ?_
  refine v_putfield (pc := 90) cx fpX9_87 h0 ⟨rfl, rfl⟩ pf8 dX9_copyFrom_90 (fun E90 hE90 hF90 => ?_)
  have hF' : Out _ E90 o (o + 1) := fun j hj => hF90 j (by omega)
  replace h0 := hE90
  replace h2 := h2.out (hF') (by omega)
  replace h6 := h6.out (hF') (by omega)
  replace h7 := h7.out (hF') (by omega)
  replace h1 := ((hF') _ (by omega)).trans h1
  replace h3 := ((hF') _ (by omega)).trans h3
  replace h4 := ((hF') _ (by omega)).trans h4
  replace h5 := ((hF') _ (by omega)).trans h5
  replace hFr : Out _ _ _ _ := fun j hj => ((hF') j (by omega)).trans (hFr j hj)
  refine v_return (pc := 93) cx hI ?_ dX9_copyFrom_93
  refine ⟨⟨_, n', b2, l2, r2, _, _, _, _, _, ng', f6, s6, nm', b7, l7, r7, _, _, ⟨h0, h1, h2, h3, h4, h5, h6, h7⟩, fun j hj => ?_, ?_, q3, q4, q5, q6, q7, ⟨?_, q8.2⟩, ⟨?_, q9.2⟩, q10, q11⟩, hFr⟩
  · rw [cpyI_in hj]
    exact q1 j hj
  · rw [← q2]
    exact lst_ext (fun j hj => e2 j (by omega))
  · rw [← q8.1]
    exact lst2_ext (fun j hj => e6 j (by omega))
  · rw [← q9.1]
    exact lst_ext (fun j hj => e7 j (by omega))
/-! the history: five states, the first ones in use -/
def rHi (G : Gc) (E : Wd) (o : Nat) (m : Nat) (a : Nat → Nat) (hs : List Sg) : Prop :=
  E o = some (.inr (4, [.ref (gb G + (o + 1)), .int (iI (m : Int))])) ∧ E (o + 1) = some (AS G 5 (fun j => some (a j))) ∧ m = hs.length ∧ m ≤ 5 ∧
  (∀ j, j < 5 → ∃ k, k < 5 ∧ a j = o + 2 + 16 * k) ∧ (∀ i j, i < 5 → j < 5 → a i = a j → i = j) ∧ (∀ j, j < 5 → ∃ σ, isS G E (a j) σ) ∧ ∀ j, j < m → ∃ σ, hs[j]? = some σ ∧ isS G E (a j) σ
def isH (G : Gc) (E : Wd) (o : Nat) (hs : List Sg) : Prop := ∃ a, rHi G E o hs.length a hs
def keepH (hs : List Sg) (σ : Sg) : List Sg := (if 5 ≤ hs.length then hs.tail else hs) ++ [σ]
theorem rHi.out {G : Gc} {E E' : Wd} {o m : Nat} {a : Nat → Nat} {hs : List Sg} {x y : Nat} (h : rHi G E o m a hs) (hE : Out E E' x y) (hxy : o + 82 ≤ x ∨ y ≤ o) : rHi G E' o m a hs := by
  obtain ⟨h0, h1, h2, h3, h4, h5, h6, h7⟩ := h
  refine ⟨(hE _ (by omega)).trans h0, (hE _ (by omega)).trans h1, h2, h3, h4, h5, fun j hj => ?_, fun j hj => ?_⟩
  · obtain ⟨k, hk, e⟩ := h4 j hj
    obtain ⟨σ, hσ⟩ := h6 j hj
    exact ⟨σ, hσ.out hE (by omega)⟩
  · obtain ⟨k, hk, e⟩ := h4 j (by omega)
    obtain ⟨σ, e1, hσ⟩ := h7 j hj
    exact ⟨σ, e1, hσ.out hE (by omega)⟩
theorem isH.out {G : Gc} {E E' : Wd} {o : Nat} {hs : List Sg} {x y : Nat} (h : isH G E o hs) (hE : Out E E' x y) (hxy : o + 82 ≤ x ∨ y ≤ o) : isH G E' o hs := by
  obtain ⟨a, h⟩ := h
  exact ⟨a, h.out hE hxy⟩
set_option maxRecDepth 100000 in
set_option maxHeartbeats 4000000 in
theorem c_Hi_dropOldest (lc : Launch) (G : Gc) (E : Wd) (nh : Nat) {o : Nat} {a : Nat → Nat} {hs : List Sg} (h : rHi G E o 5 a hs) : CV lc G 0 yX4_dropOldest cX4_dropOldest 3 [.ref (gb G + o)] E nh 0 0 (fun E' => (∃ a', rHi G E' o 4 a' hs.tail) ∧ Out E E' o (o + 2)) := by
  refine CV.mk (by decide +kernel) rfl (Nat.le_of_ble_eq_true rfl) ?_
  intro X hG hL cx hR hI hini
  subst hG; subst hL
  show V X E (nh, 0, 0) 0 [some (.ref (gb (fG X) + o)), none, none] []
  obtain ⟨h0, h1, h2, h3, h4, h5, h6, h7⟩ := h
  have loop : ∀ (d i : Nat) (E' : Wd), 1 ≤ i → i ≤ 5 → 5 - i < d → E' o = E o → E' (o + 1) = some (AS (fG X) 5 (fun j => some (if j + 1 < i then a (j + 1) else a j))) → Out E E' o (o + 2) → V X E' (nh, 0, 0) 9 [some (.ref (gb (fG X) + o)), some (.ref (gb (fG X) + a 0)), some (.int (iI (i : Int)))] [] := by
    intro d
    induction d with
    | zero => intro i E' _ hi hd; omega
    | succ d ih =>
      intro i E' hi1 hi hd g0 g1 hFr
      replace g0 := g0.trans h0
      refine v_iload_n (pc := 9) cx rfl ga2 dX4_dropOldest_9 ?_
      refine v_iconst (pc := 10) cx dX4_dropOldest_10 ?_
      refine v_icmp_ge (pc := 11) cx 34 dX4_dropOldest_11 rfl (by omega) (fun c11 => ?_) (fun c11 => ?_)
      · have e : i = 5 := by omega
        subst e
        obtain ⟨k0, hk0, e0⟩ := h4 0 (by omega)
        obtain ⟨σ0, hσ0⟩ := h6 0 (by omega)
        obtain ⟨fs, hfs⟩ := (hσ0.out hFr (by omega)).obj
        refine v_aload_n (pc := 34) cx rfl ga0 dX4_dropOldest_34 ?_
        refine v_getfield (pc := 35) cx flX4_11 (by assumption) gf0 dX4_dropOldest_35 ?_
        refine v_iconst (pc := 38) cx dX4_dropOldest_38 ?_
        refine v_aload_n (pc := 39) cx rfl ga1 dX4_dropOldest_39 ?_
        refine v_aastore (pc := 40) cx (4) g1 (by omega) hfs dX4_dropOldest_40 (fun E40 hE40 hF40 => ?_)
        replace g0 := (hF40 _ (by omega)).trans g0
        replace g1 := hE40
        replace hFr := fun j hj => (hF40 j (by omega)).trans (hFr j hj)
        refine v_aload_n (pc := 41) cx rfl ga0 dX4_dropOldest_41 ?_
        refine v_iconst (pc := 42) cx dX4_dropOldest_42 ?_
        refine v_putfield (pc := 43) cx fpX4_18 g0 ⟨rfl, rfl⟩ pf1 dX4_dropOldest_43 (fun E43 hE43 hF43 => ?_)
        replace g0 := hE43
        replace g1 := (hF43 _ (by omega)).trans g1
        replace hFr := fun j hj => (hF43 j (by omega)).trans (hFr j hj)
        refine v_return (pc := 46) cx hI ?_ dX4_dropOldest_46
        have hFr : Out E E43 o (o + 2) := hFr
        have hsame : ∀ j, j < 5 → ∃ j', j' < 5 ∧ (if j = 4 then a 0 else if j + 1 < 5 then a (j + 1) else a j) = a j' ∧ (j = 4 → j' = 0) ∧ (j < 4 → j' = j + 1) := by
          intro j hj
          by_cases e1 : j = 4
          · exact ⟨0, by omega, by rw [if_pos e1], fun _ => rfl, fun _ => by omega⟩
          · exact ⟨j + 1, by omega, by rw [if_neg e1, if_pos (by omega)], fun q => absurd q e1, fun _ => rfl⟩
        refine ⟨⟨fun j => if j = 4 then a 0 else if j + 1 < 5 then a (j + 1) else a j, g0, ?_, ?_, by omega, ?_, ?_, ?_, ?_⟩, hFr⟩
        · rw [g1]
          congr 7
          funext j
          by_cases e1 : j = 4
          · subst e1
            simp [upO]
          · simp only [upO, if_neg e1]
        · rw [List.length_tail]; omega
        · intro j hj
          obtain ⟨j', q1, q2, -⟩ := hsame j hj
          show ∃ k, k < 5 ∧ (if j = 4 then a 0 else if j + 1 < 5 then a (j + 1) else a j) = _
          rw [q2]
          exact h4 j' q1
        · intro i j hi hj hij
          obtain ⟨i', p1, p2, p3, p4⟩ := hsame i hi
          obtain ⟨j', q1, q2, q3, q4⟩ := hsame j hj
          have := h5 i' j' p1 q1 (p2.symm.trans (hij.trans q2))
          omega
        · intro j hj
          obtain ⟨j', q1, q2, -⟩ := hsame j hj
          show ∃ σ, isS (fG X) E43 (if j = 4 then a 0 else if j + 1 < 5 then a (j + 1) else a j) σ
          rw [q2]
          obtain ⟨k, hk, e⟩ := h4 j' q1
          obtain ⟨σ, hσ⟩ := h6 j' q1
          exact ⟨σ, hσ.out hFr (by omega)⟩
        · intro j hj
          obtain ⟨j', q1, q2, q3, q4⟩ := hsame j (by omega)
          show ∃ σ, hs.tail[j]? = some σ ∧ isS (fG X) E43 (if j = 4 then a 0 else if j + 1 < 5 then a (j + 1) else a j) σ
          rw [q2]
          obtain ⟨k, hk, e⟩ := h4 j' q1
          obtain ⟨σ, e2, hσ⟩ := h7 j' (by omega)
          refine ⟨σ, ?_, hσ.out hFr (by omega)⟩
          rw [List.getElem?_tail, ← q4 hj]
          exact e2
      · obtain ⟨k0, hk0, e0⟩ := h4 i (by omega)
        obtain ⟨σ0, hσ0⟩ := h6 i (by omega)
        obtain ⟨fs, hfs⟩ := (hσ0.out hFr (by omega)).obj
        have e1 : (fun j => some (if j + 1 < i then a (j + 1) else a j)) i = some (a i) := by
          show some (if i + 1 < i then a (i + 1) else a i) = some (a i)
          rw [if_neg (by omega)]
        refine v_aload_n (pc := 14) cx rfl ga0 dX4_dropOldest_14 ?_
        refine v_getfield (pc := 15) cx flX4_11 (by assumption) gf0 dX4_dropOldest_15 ?_
        refine v_iload_n (pc := 18) cx rfl ga2 dX4_dropOldest_18 ?_
        refine v_iconst (pc := 19) cx dX4_dropOldest_19 ?_
        refine v_isub (pc := 20) cx dX4_dropOldest_20 ?_
        refine v_aload_n (pc := 21) cx rfl ga0 dX4_dropOldest_21 ?_
        refine v_getfield (pc := 22) cx flX4_11 (by assumption) gf0 dX4_dropOldest_22 ?_
        refine v_iload_n (pc := 25) cx rfl ga2 dX4_dropOldest_25 ?_
        refine v_aaload (pc := 26) cx (i) (by assumption) (by omega) (e1) dX4_dropOldest_26 ?_
        refine v_aastore (pc := 27) cx (i - 1) g1 (by omega) hfs dX4_dropOldest_27 (fun E27 hE27 hF27 => ?_)
        replace g0 := (hF27 _ (by omega)).trans g0
        replace g1 := hE27
        replace hFr := fun j hj => (hF27 j (by omega)).trans (hFr j hj)
        refine v_iinc (pc := 28) cx ga2 (sa2 rfl) dX4_dropOldest_28 ?_
        refine v_goto (pc := 31) cx 9 dX4_dropOldest_31 rfl ?_
        refine ih (i + 1) _ (by omega) (by omega) (by omega) (g0.trans h0.symm) ?_ hFr
        rw [g1]
        congr 7
        funext j
        by_cases e2 : j = i - 1
        · simp only [upO, if_pos e2]
          rw [if_pos (by omega), e2, show i - 1 + 1 = i by omega]
        · simp only [upO, if_neg e2]
          by_cases e3 : j + 1 < i
          · rw [if_pos e3, if_pos (by omega)]
          · rw [if_neg e3, if_neg (by omega)]
  refine v_aload_n (pc := 0) cx rfl ga0 dX4_dropOldest_0 ?_
  refine v_getfield (pc := 1) cx flX4_11 (by assumption) gf0 dX4_dropOldest_1 ?_
  refine v_iconst (pc := 4) cx dX4_dropOldest_4 ?_
  refine v_aaload (pc := 5) cx (0) (by assumption) (by omega) (show (fun j => some (a j)) 0 = some (a 0) from rfl) dX4_dropOldest_5 ?_
  refine v_astore_n (pc := 6) cx rfl (sa1 rfl) dX4_dropOldest_6 ?_
  refine v_iconst (pc := 7) cx dX4_dropOldest_7 ?_
  refine v_istore_n (pc := 8) cx rfl (sa2 rfl) dX4_dropOldest_8 ?_
  refine loop 5 1 E (by omega) (by omega) (by omega) rfl ?_ (fun _ _ => rfl)
  rw [h1]
  congr 7
set_option maxRecDepth 100000 in
set_option maxHeartbeats 4000000 in
theorem c_Hi_keep (lc : Launch) (G : Gc) (E : Wd) (nh : Nat) {o os : Nat} {hs : List Sg} {σ : Sg} (h : isH G E o hs) (hs0 : isS G E os σ) (hd : os + 16 ≤ o ∨ o + 82 ≤ os) : CV lc G 4 yX4_keep cX4_keep 2 [.ref (gb G + o), .ref (gb G + os)] E nh 0 0 (fun E' => isH G E' o (keepH hs σ) ∧ Out E E' o (o + 82)) := by
  refine CV.mk (by decide +kernel) rfl (Nat.le_of_ble_eq_true rfl) ?_
  intro X hG hL cx hR hI hini
  subst hG; subst hL
  show V X E (nh, 0, 0) 0 [some (.ref (gb (fG X) + o)), some (.ref (gb (fG X) + os))] []
  have fin : ∀ (E' : Wd) (m : Nat) (a : Nat → Nat) (hs' : List Sg), m < 5 → rHi (fG X) E' o m a hs' → hs' = (if 5 ≤ hs.length then hs.tail else hs) → Out E E' o (o + 82) → V X E' (nh, 0, 0) 12 [some (.ref (gb (fG X) + o)), some (.ref (gb (fG X) + os))] [] := by
    intro E' m a hs' hm h hhs hFr
    obtain ⟨h0, h1, h2, h3, h4, h5, h6, h7⟩ := h
    obtain ⟨k, hk, e⟩ := h4 m hm
    obtain ⟨σ0, hσ0⟩ := h6 m hm
    obtain ⟨fs, hfs⟩ := hσ0.obj
    refine v_aload_n (pc := 12) cx rfl ga0 dX4_keep_12 ?_
    refine v_getfield (pc := 13) cx flX4_11 (by assumption) gf0 dX4_keep_13 ?_
    refine v_aload_n (pc := 16) cx rfl ga0 dX4_keep_16 ?_
    refine v_getfield (pc := 17) cx flX4_18 (by assumption) gf1 dX4_keep_17 ?_
    refine v_aaload (pc := 20) cx (m) (by assumption) (by omega) (show (fun j => some (a j)) m = some (a m) from rfl) dX4_keep_20 ?_
    refine v_aload_n (pc := 21) cx rfl ga1 dX4_keep_21 ?_
    refine v_callVV (pc := 22) cx hR (c_St_copyFrom _ _ _ _ hσ0 (hs0.out hFr (by omega)) (by omega)) mlX4_25 (by decide) (by assumption) rfl rfl rfl (Nat.le_of_ble_eq_true rfl) ⟨Nat.le_refl _, Nat.le_refl _⟩ dX4_keep_22 (fun E2 hP => ?_)
    obtain ⟨hn, hF⟩ := hP
    replace h0 := ((hF) _ (by omega)).trans h0
    replace h1 := ((hF) _ (by omega)).trans h1
    replace hFr : Out _ _ _ _ := fun j hj => ((hF) j (by omega)).trans (hFr j hj)
    refine v_aload_n (pc := 25) cx rfl ga0 dX4_keep_25 ?_
    refine v_dup (pc := 26) cx rfl dX4_keep_26 ?_
    refine v_getfield (pc := 27) cx flX4_18 (by assumption) gf1 dX4_keep_27 ?_
    refine v_iconst (pc := 30) cx dX4_keep_30 ?_
    refine v_iadd (pc := 31) cx dX4_keep_31 ?_
    refine v_putfield (pc := 32) cx fpX4_18 h0 ⟨rfl, rfl⟩ pf1 dX4_keep_32 (fun E32 hE32 hF32 => ?_)
    replace h0 := hE32
    replace h1 := (hF32 _ (by omega)).trans h1
    replace hFr := fun j hj => (hF32 j (by omega)).trans (hFr j hj)
    have hF2 : Out E' E32 o (a m + 16) := fun j hj => (hF32 j (by omega)).trans (hF j (by omega))
    have hF32' : Out E2 E32 o (o + 1) := fun j hj => hF32 j (by omega)
    refine v_return (pc := 35) cx hI ?_ dX4_keep_35
    have hlen : (keepH hs σ).length = m + 1 := by
      unfold keepH
      rw [← hhs, List.length_append, ← h2]
      rfl
    have hkeep : ∀ j, j < 5 → j ≠ m → ∀ τ, isS (fG X) E' (a j) τ → isS (fG X) E32 (a j) τ := by
      intro j hj hjm τ hτ
      obtain ⟨k', hk', e'⟩ := h4 j hj
      have hne : k ≠ k' := fun q => hjm (h5 j m hj hm (by rw [e', e, q]))
      exact (hτ.out hF (by omega)).out hF32' (by omega)
    refine ⟨⟨a, ?_⟩, hFr⟩
    rw [hlen]
    refine ⟨h0, h1, hlen.symm, by omega, h4, h5, fun j hj => ?_, fun j hj => ?_⟩
    · by_cases e2 : j = m
      · subst e2
        exact ⟨σ, hn.out hF32' (by omega)⟩
      · obtain ⟨τ, hτ⟩ := h6 j hj
        exact ⟨τ, hkeep j hj e2 τ hτ⟩
    · unfold keepH
      rw [← hhs]
      by_cases e2 : j = m
      · subst e2
        refine ⟨σ, ?_, hn.out hF32' (by omega)⟩
        rw [List.getElem?_append_right (by omega), h2]
        simp
      · obtain ⟨τ, e3, hτ⟩ := h7 j (by omega)
        refine ⟨τ, ?_, hkeep j (by omega) e2 τ hτ⟩
        rw [List.getElem?_append_left (by omega)]
        exact e3
  obtain ⟨a, h⟩ := h
  have h00 := h
  obtain ⟨h0, h1, h2, h3, -⟩ := h00
  refine v_aload_n (pc := 0) cx rfl ga0 dX4_keep_0 ?_
  refine v_getfield (pc := 1) cx flX4_18 (by assumption) gf1 dX4_keep_1 ?_
  refine v_iconst (pc := 4) cx dX4_keep_4 ?_
  refine v_icmp_lt (pc := 5) cx 12 dX4_keep_5 rfl (by omega) (fun c5 => ?_) (fun c5 => ?_)
  · exact fin E hs.length a hs (by omega) h (by rw [if_neg (by omega)]) (fun _ _ => rfl)
  · refine v_aload_n (pc := 8) cx rfl ga0 dX4_keep_8 ?_
    have e : hs.length = 5 := by omega
    rw [e] at h
    refine v_callVV (pc := 9) cx hR (c_Hi_dropOldest _ _ _ _ h) mlX4_22 (by decide) (by assumption) rfl rfl rfl (Nat.le_of_ble_eq_true rfl) ⟨Nat.le_refl _, Nat.le_refl _⟩ dX4_keep_9 (fun E2 hP => ?_)
    obtain ⟨⟨a', h'⟩, hF⟩ := hP
    exact fin E2 4 a' hs.tail (by omega) h' (by rw [if_pos (by omega)]) (fun j hj => hF j (by omega))
set_option maxRecDepth 100000 in
set_option maxHeartbeats 4000000 in
theorem c_Hi_restore (lc : Launch) (G : Gc) (E : Wd) (nh : Nat) {o os : Nat} {hs : List Sg} {σ τ : Sg} (h : isH G E o (hs ++ [σ])) (hs0 : isS G E os τ) (hd : os + 16 ≤ o ∨ o + 82 ≤ os) : CV lc G 4 yX4_restoreInto cX4_restoreInto 2 [.ref (gb G + o), .ref (gb G + os)] E nh 0 0 (fun E' => isH G E' o hs ∧ isS G E' os σ ∧ ∀ j, j ≠ o → (j < os ∨ os + 16 ≤ j) → E' j = E j) := by
  refine CV.mk (by decide +kernel) rfl (Nat.le_of_ble_eq_true rfl) ?_
  intro X hG hL cx hR hI hini
  subst hG; subst hL
  show V X E (nh, 0, 0) 0 [some (.ref (gb (fG X) + o)), some (.ref (gb (fG X) + os))] []
  obtain ⟨a, h0, h1, h2, h3, h4, h5, h6, h7⟩ := h
  rw [List.length_append, List.length_singleton] at h0 h3 h7
  obtain ⟨σ', e1, hσ⟩ := h7 hs.length (by omega)
  obtain ⟨k, hk, e⟩ := h4 hs.length (by omega)
  have e2 : σ' = σ := by
    rw [List.getElem?_append_right (Nat.le_refl _)] at e1
    simp at e1
    exact e1.symm
  subst e2
  obtain ⟨fs, hfs⟩ := hσ.obj
  refine v_aload_n (pc := 0) cx rfl ga0 dX4_restoreInto_0 ?_
  refine v_getfield (pc := 1) cx flX4_18 (by assumption) gf1 dX4_restoreInto_1 ?_
  refine v_if_le (pc := 4) cx 30 dX4_restoreInto_4 rfl (by omega) (fun c4 => ?_) (fun c4 => ?_)
  · omega
  · refine v_aload_n (pc := 7) cx rfl ga0 dX4_restoreInto_7 ?_
    refine v_dup (pc := 8) cx rfl dX4_restoreInto_8 ?_
    refine v_getfield (pc := 9) cx flX4_18 (by assumption) gf1 dX4_restoreInto_9 ?_
    refine v_iconst (pc := 12) cx dX4_restoreInto_12 ?_
    refine v_isub (pc := 13) cx dX4_restoreInto_13 ?_
    refine v_putfield (pc := 14) cx fpX4_18 h0 ⟨rfl, rfl⟩ pf1 dX4_restoreInto_14 (fun E14 hE14 hF14 => ?_)
    replace h0 := hE14
    replace h1 := (hF14 _ (by omega)).trans h1
    rw [show ((hs.length + 1 : Nat) : Int) - 1 = ((hs.length : Nat) : Int) by omega] at h0
    have hF14' : Out E E14 o (o + 1) := fun j hj => hF14 j (by omega)
    have hσ' := hσ.out hF14' (by omega)
    replace hs0 := hs0.out hF14' (by omega)
    refine v_aload_n (pc := 17) cx rfl ga1 dX4_restoreInto_17 ?_
    refine v_aload_n (pc := 18) cx rfl ga0 dX4_restoreInto_18 ?_
    refine v_getfield (pc := 19) cx flX4_11 (by assumption) gf0 dX4_restoreInto_19 ?_
    refine v_aload_n (pc := 22) cx rfl ga0 dX4_restoreInto_22 ?_
    refine v_getfield (pc := 23) cx flX4_18 (by assumption) gf1 dX4_restoreInto_23 ?_
    refine v_aaload (pc := 26) cx (hs.length) (by assumption) (by omega) (show (fun j => some (a j)) hs.length = some (a hs.length) from rfl) dX4_restoreInto_26 ?_
    obtain ⟨ft, hft⟩ := hs0.obj
    refine v_callVV (pc := 27) cx hR (c_St_copyFrom _ _ _ _ hs0 hσ' (by omega)) mlX4_25 (by decide) (by assumption) rfl rfl rfl (Nat.le_of_ble_eq_true rfl) ⟨Nat.le_refl _, Nat.le_refl _⟩ dX4_restoreInto_27 (fun E2 hP => ?_)
    obtain ⟨hn, hF⟩ := hP
    refine v_return (pc := 30) cx hI ?_ dX4_restoreInto_30
    refine ⟨⟨a, (hF _ (by omega)).trans h0, (hF _ (by omega)).trans h1, rfl, by omega, h4, h5, fun j hj => ?_, fun j hj => ?_⟩, hn, fun j hj1 hj2 => (hF j hj2).trans (hF14 j hj1)⟩
    · obtain ⟨k', hk', e'⟩ := h4 j hj
      obtain ⟨τ', hτ⟩ := h6 j hj
      exact ⟨τ', (hτ.out hF14' (by omega)).out hF (by omega)⟩
    · obtain ⟨k', hk', e'⟩ := h4 j (by omega)
      obtain ⟨τ', e3, hτ⟩ := h7 j (by omega)
      refine ⟨τ', ?_, (hτ.out hF14' (by omega)).out hF (by omega)⟩
      rw [List.getElem?_append_left (by omega)] at e3
      exact e3
end
section
/-! what leaves the funnel in the ticks to come -/
def rOl (G : Gc) (E : Wd) (o : Nat) (k : Int) (lf dy : Nat → Int) : Prop :=
  E o = some (.inr (6, [.ref (gb G + (o + 1)), .ref (gb G + (o + 2)), .int (iI k)])) ∧ E (o + 1) = some (AI G 1000 lf) ∧ E (o + 2) = some (AZ G 1000 dy)
theorem rOl.out {G : Gc} {E E' : Wd} {o : Nat} {k : Int} {lf dy : Nat → Int} {x y : Nat} (h : rOl G E o k lf dy) (hE : Out E E' x y) (hxy : o + 3 ≤ x ∨ y ≤ o) : rOl G E' o k lf dy :=
  ⟨(hE _ (by omega)).trans h.1, (hE _ (by omega)).trans h.2.1, (hE _ (by omega)).trans h.2.2⟩
def laF (rn : Nat → Int) (cap dg c0 : Int) : Nat → Int
  | 0 => c0
  | i + 1 => laF rn cap dg c0 i + fTaken (rn i) cap (laF rn cap dg c0 i) - fGone (rn i) cap (laF rn cap dg c0 i) dg
def laL (rn : Nat → Int) (cap dg c0 : Int) (i : Nat) : Int := rn i - fTaken (rn i) cap (laF rn cap dg c0 i)
theorem laF_bd {rn : Nat → Int} {cap dg c0 : Int} (hc : 0 ≤ c0 ∧ c0 ≤ 200) (hcap : 0 ≤ cap ∧ cap ≤ 200) (hdg : 0 ≤ dg) (hr : ∀ i, 0 ≤ rn i) : ∀ i, 0 ≤ laF rn cap dg c0 i ∧ laF rn cap dg c0 i ≤ 200 := by
  intro i
  induction i with
  | zero => exact hc
  | succ i ih =>
    have f1 := fT_bd (cap := cap) (c := laF rn cap dg c0 i) (hr i)
    have f2 : 0 ≤ fGone (rn i) cap (laF rn cap dg c0 i) dg ∧ fGone (rn i) cap (laF rn cap dg c0 i) dg ≤ laF rn cap dg c0 i + fTaken (rn i) cap (laF rn cap dg c0 i) := by
      unfold fGone
      split <;> omega
    simp only [laF]
    omega
set_option maxRecDepth 100000 in
set_option maxHeartbeats 4000000 in
theorem c_Ol_lookAhead (lc : Launch) (G : Gc) (E : Wd) (nh : Nat) {o os k : Nat} {z : Int} {lf dy : Nat → Int} {st : Nat → Int} {n : Nat} {b l r : Nat → Int} {fc fd : Int} {B : BT} {cr cc : Int} {ng : Nat} {gf gs : Nat → Int} {nm : Nat} {t p v : Nat → Int} {tick fell : Int} (h : rOl G E o z lf dy) (hs : rSt G E os st n b l r fc fd B cr cc ng gf gs nm t p v tick fell) (hd : os + 16 ≤ o ∨ o + 3 ≤ os) (hk : k ≤ 1000) (hn : n ≤ 12) (hsh : okSh (lst b l r n)) (hb : (0 ≤ tick ∧ tick ≤ 5000) ∧ (0 ≤ fc ∧ fc ≤ 200) ∧ (0 ≤ st 2 ∧ st 2 ≤ 200) ∧ (0 ≤ st 3 ∧ st 3 ≤ 50)) : CV lc G 2 yX6_lookAhead cX6_lookAhead 5 [.ref (gb G + o), .ref (gb G + os), .int (iI (k : Int))] E nh 0 0 (fun E' => (∃ lf' dy' fc' fd', rOl G E' o k lf' dy' ∧ rSt G E' os st n b l r fc' fd' B cr cc ng gf gs nm t p v tick fell ∧ ∀ i, i < k → lf' i = laL (fun i => rainL (lst b l r n) (tick + i)) (st 2) (st 3) fc i ∧ dy' i = (if rainL (lst b l r n) (tick + i) = 0 then 1 else 0)) ∧ ∀ j, (j < o ∨ o + 3 ≤ j) → j ≠ os + 6 → E' j = E j) := by
  refine CV.mk (by decide +kernel) rfl (Nat.le_of_ble_eq_true rfl) ?_
  intro X hG hL cx hR hI hini
  subst hG; subst hL
  show V X E (nh, 0, 0) 0 [some (.ref (gb (fG X) + o)), some (.ref (gb (fG X) + os)), some (.int (iI (k : Int))), none, none] []
  have hrn := rainL_bd hsh.2
  have hbd := laF_bd (rn := fun i => rainL (lst b l r n) (tick + i)) hb.2.1 hb.2.2.1 hb.2.2.2.1 (fun i => (hrn _).1)
  have loop : ∀ (d i : Nat) (E' : Wd) (lf' dy' : Nat → Int) (fd' : Int) (lw : Option Value), i ≤ k → k - i < d → rOl (fG X) E' o k lf' dy' → E' (os + 6) = some (oFi (laF (fun i => rainL (lst b l r n) (tick + i)) (st 2) (st 3) fc i) fd') → (∀ j, j < i → lf' j = laL (fun i => rainL (lst b l r n) (tick + i)) (st 2) (st 3) fc j ∧ dy' j = (if rainL (lst b l r n) (tick + j) = 0 then 1 else 0)) → (∀ j, (j < o ∨ o + 3 ≤ j) → j ≠ os + 6 → E' j = E j) → V X E' (nh, 0, 0) 13 [some (.ref (gb (fG X) + o)), some (.ref (gb (fG X) + os)), some (.int (iI (k : Int))), some (.int (iI (i : Int))), lw] [] := by
    intro d
    induction d with
    | zero => intro i E' lf' dy' fd' lw hi hd; omega
    | succ d ih =>
      intro i E' lf' dy' fd' lw hi hd2 h hf hres hFr
      obtain ⟨h0, h1, h2⟩ := h
      obtain ⟨s0, s1, s2, s3, s4, s5, s6, s7⟩ := hs
      have g0 : E' os = _ := (hFr os (by omega) (by omega)).trans s0
      have g1 : E' (os + 1) = _ := (hFr (os + 1) (by omega) (by omega)).trans s1
      have g2 : rSh (fG X) E' (os + 2) n b l r := ⟨(hFr _ (by omega) (by omega)).trans s2.1, (hFr _ (by omega) (by omega)).trans s2.2.1, (hFr _ (by omega) (by omega)).trans s2.2.2.1, (hFr _ (by omega) (by omega)).trans s2.2.2.2⟩
      refine v_iload_n (pc := 13) cx rfl ga3 dX6_lookAhead_13 ?_
      refine v_aload_n (pc := 14) cx rfl ga0 dX6_lookAhead_14 ?_
      refine v_getfield (pc := 15) cx flX6_25 (by assumption) gf2 dX6_lookAhead_15 ?_
      refine v_icmp_ge (pc := 18) cx 85 dX6_lookAhead_18 rfl (by omega) (fun c18 => ?_) (fun c18 => ?_)
      · refine v_return (pc := 85) cx hI ?_ dX6_lookAhead_85
        have e : i = k := by omega
        subst e
        refine ⟨⟨lf', dy', _, fd', ⟨h0, h1, h2⟩, ⟨g0, g1, g2, hf, ?_, ?_, ?_, ?_⟩, hres⟩, hFr⟩
        · exact (hFr _ (by omega) (by omega)).trans s4
        · exact (hFr _ (by omega) (by omega)).trans s5
        · exact ⟨(hFr _ (by omega) (by omega)).trans s6.1, (hFr _ (by omega) (by omega)).trans s6.2.1, (hFr _ (by omega) (by omega)).trans s6.2.2⟩
        · exact ⟨(hFr _ (by omega) (by omega)).trans s7.1, (hFr _ (by omega) (by omega)).trans s7.2.1, (hFr _ (by omega) (by omega)).trans s7.2.2.1, (hFr _ (by omega) (by omega)).trans s7.2.2.2⟩
      · refine v_aload_n (pc := 21) cx rfl ga1 dX6_lookAhead_21 ?_
        refine v_getfield (pc := 22) cx flX6_29 (by assumption) gf1 dX6_lookAhead_22 ?_
        refine v_aload_n (pc := 25) cx rfl ga1 dX6_lookAhead_25 ?_
        refine v_getfield (pc := 26) cx flX6_35 (by assumption) gf7 dX6_lookAhead_26 ?_
        refine v_iload_n (pc := 29) cx rfl ga3 dX6_lookAhead_29 ?_
        refine v_iadd (pc := 30) cx dX6_lookAhead_30 ?_
        refine v_callVI (pc := 31) cx hR (c_Sh_rainIn _ _ _ _ g2 hn (by omega) (okSh_at hsh)) mlX6_38 (by decide) g2.1 rfl rfl rfl (Nat.le_of_ble_eq_true rfl) ⟨Nat.le_refl _, Nat.le_refl _⟩ dX6_lookAhead_31 (fun v1 E2 hP => ?_)
        obtain ⟨rfl, rfl⟩ := hP
        rw [rainTo_L]
        have b1 := hrn (tick + (i : Int))
        have b2 := hbd i
        have b3 := hsh.1
        refine v_istore (pc := 34) cx (sa4 rfl) dX6_lookAhead_34 ?_
        refine v_aload_n (pc := 36) cx rfl ga0 dX6_lookAhead_36 ?_
        refine v_getfield (pc := 37) cx flX6_9 (by assumption) gf0 dX6_lookAhead_37 ?_
        refine v_iload_n (pc := 40) cx rfl ga3 dX6_lookAhead_40 ?_
        refine v_aload_n (pc := 41) cx rfl ga1 dX6_lookAhead_41 ?_
        refine v_getfield (pc := 42) cx flX6_44 (by assumption) gf2 dX6_lookAhead_42 ?_
        refine v_iload (pc := 45) cx ga4 dX6_lookAhead_45 ?_
        refine v_aload_n (pc := 47) cx rfl ga1 dX6_lookAhead_47 ?_
        refine v_getfield (pc := 48) cx flX6_48 (by assumption) gf0 dX6_lookAhead_48 ?_
        refine v_iconst (pc := 51) cx dX6_lookAhead_51 ?_
        refine v_iaload (pc := 52) cx (2) (by assumption) (by omega) dX6_lookAhead_52 ?_
        refine v_aload_n (pc := 53) cx rfl ga1 dX6_lookAhead_53 ?_
        refine v_getfield (pc := 54) cx flX6_48 (by assumption) gf0 dX6_lookAhead_54 ?_
        refine v_iconst (pc := 57) cx dX6_lookAhead_57 ?_
        refine v_iaload (pc := 58) cx (3) (by assumption) (by omega) dX6_lookAhead_58 ?_
        refine v_callVI (pc := 59) cx hR (c_Fi_passTick _ _ _ _ hf (by omega)) mlX6_51 (by decide) (by assumption) rfl rfl rfl (Nat.le_of_ble_eq_true rfl) ⟨Nat.le_refl _, Nat.le_refl _⟩ dX6_lookAhead_59 (fun v2 E3 hP => ?_)
        obtain ⟨rfl, hf, hF⟩ := hP
        replace h0 := (hF _ (by omega)).trans h0
        replace h1 := (hF _ (by omega)).trans h1
        replace h2 := (hF _ (by omega)).trans h2
        have hF3 : ∀ j, (j < o ∨ o + 3 ≤ j) → j ≠ os + 6 → E3 j = E j := fun j hj1 hj2 => (hF j (by omega)).trans (hFr j hj1 hj2)
        refine v_iastore (pc := 62) cx (i) h1 (by omega) dX6_lookAhead_62 (fun E62 hE62 hF62 => ?_)
        replace h0 := (hF62 _ (by omega)).trans h0
        replace h1 := hE62
        replace h2 := (hF62 _ (by omega)).trans h2
        replace hf := (hF62 _ (by omega)).trans hf
        have hF62' : ∀ j, (j < o ∨ o + 3 ≤ j) → j ≠ os + 6 → E62 j = E j := fun j hj1 hj2 => (hF62 j (by omega)).trans (hF3 j hj1 hj2)
        have fin : ∀ y : Int, y = (if rainL (lst b l r n) (tick + i) = 0 then 1 else 0) → narrow .boolean (.int (iI y)) = .int (iI y) → V X E62 (nh, 0, 0) 78 [some (.ref (gb (fG X) + o)), some (.ref (gb (fG X) + os)), some (.int (iI (k : Int))), some (.int (iI (i : Int))), some (.int (iI (rainL (lst b l r n) (tick + i))))] [.int (iI y), .int (iI (i : Int)), .ref (gb (fG X) + (o + 2))] := by
          intro y hy hn
          refine v_bastore (pc := 78) cx (i) h2 (by omega) (hn) dX6_lookAhead_78 (fun E78 hE78 hF78 => ?_)
          replace h0 := (hF78 _ (by omega)).trans h0
          replace h1 := (hF78 _ (by omega)).trans h1
          replace h2 := hE78
          replace hf := (hF78 _ (by omega)).trans hf
          refine v_iinc (pc := 79) cx ga3 (sa3 rfl) dX6_lookAhead_79 ?_
          refine v_goto (pc := 82) cx 13 dX6_lookAhead_82 rfl ?_
          refine ih (i + 1) _ _ _ _ _ (by omega) (by omega) ⟨h0, h1, h2⟩ hf (fun j hj => ?_) (fun j hj1 hj2 => (hF78 j (by omega)).trans (hF62' j hj1 hj2))
          by_cases e : j = i
          · subst e
            rw [upI_s, upI_s]
            exact ⟨rfl, hy⟩
          · rw [upI_n e, upI_n e]
            exact hres j (by omega)
        refine v_aload_n (pc := 63) cx rfl ga0 dX6_lookAhead_63 ?_
        refine v_getfield (pc := 64) cx flX6_15 (by assumption) gf1 dX6_lookAhead_64 ?_
        refine v_iload_n (pc := 67) cx rfl ga3 dX6_lookAhead_67 ?_
        refine v_iload (pc := 68) cx ga4 dX6_lookAhead_68 ?_
        refine v_if_ne (pc := 70) cx 77 dX6_lookAhead_70 rfl (by omega) (fun c70 => ?_) (fun c70 => ?_)
        · refine v_iconst (pc := 77) cx dX6_lookAhead_77 ?_
          exact fin 0 (by rw [if_neg (by assumption)]) rfl
        · refine v_iconst (pc := 73) cx dX6_lookAhead_73 ?_
          refine v_goto (pc := 74) cx 78 dX6_lookAhead_74 rfl ?_
          exact fin 1 (by rw [if_pos (by assumption)]) rfl
  obtain ⟨h0, h1, h2⟩ := h
  refine v_aload_n (pc := 0) cx rfl ga0 dX6_lookAhead_0 ?_
  refine v_iload_n (pc := 1) cx rfl ga2 dX6_lookAhead_1 ?_
  refine v_sipush (pc := 2) cx (by decide) dX6_lookAhead_2 ?_
  refine v_callSI (pc := 5) cx hR (c_min _ _ _ _ (by omega)) mlX6_19 (by decide) rfl (Nat.le_of_ble_eq_true rfl) ⟨Nat.le_refl _, Nat.le_refl _⟩ dX6_lookAhead_5 (fun v3 E4 hP => ?_)
  obtain ⟨rfl, rfl⟩ := hP
  rw [show min (k : Int) 1000 = (k : Int) by omega]
  refine v_putfield (pc := 8) cx fpX6_25 h0 ⟨rfl, rfl⟩ pf2 dX6_lookAhead_8 (fun E8 hE8 hF8 => ?_)
  replace h0 := hE8
  replace h1 := (hF8 _ (by omega)).trans h1
  replace h2 := (hF8 _ (by omega)).trans h2
  refine v_iconst (pc := 11) cx dX6_lookAhead_11 ?_
  refine v_istore_n (pc := 12) cx rfl (sa3 rfl) dX6_lookAhead_12 ?_
  refine loop (k + 1) 0 _ lf dy fd none (by omega) (by omega) ⟨h0, h1, h2⟩ ((hF8 _ (by omega)).trans hs.2.2.2.1) (fun j hj => by omega) (fun j hj1 hj2 => hF8 j (by omega))
def bN (lf dy : Nat → Int) (cap tt dg : Int) (B : BT) : Nat → BT
  | 0 => B
  | i + 1 => bS (lf i) (dy i) cap tt dg (bN lf dy cap tt dg B i)
theorem bS_bd {rain d cap tt dg : Int} {B : BT} (hr : 0 ≤ rain) (hdg : 0 ≤ dg) (hcap : 20 ≤ cap) (htt : 0 ≤ tt ∧ tt ≤ 20) (h : 0 ≤ B.1 ∧ 0 ≤ B.2.1 ∧ B.2.1 ≤ 20) : (0 ≤ (bS rain d cap tt dg B).1 ∧ 0 ≤ (bS rain d cap tt dg B).2.1 ∧ (bS rain d cap tt dg B).2.1 ≤ 20) ∧ (bS rain d cap tt dg B).1 ≤ B.1 + rain ∧ B.2.2.2.1 ≤ (bS rain d cap tt dg B).2.2.2.1 ∧ B.2.2.2.2.1 ≤ (bS rain d cap tt dg B).2.2.2.2.1 ∧ (bS rain d cap tt dg B).1 + (bS rain d cap tt dg B).2.2.2.1 + (bS rain d cap tt dg B).2.2.2.2.1 ≤ B.1 + B.2.2.2.1 + B.2.2.2.2.1 + rain := by
  have hg : 0 ≤ bGone B.1 rain d dg ∧ bGone B.1 rain d dg ≤ B.1 + rain := by
    unfold bGone
    split <;> omega
  unfold bS
  split
  · simp only; omega
  · split
    · simp only; omega
    · simp only; omega
theorem bN_bd {lf dy : Nat → Int} {cap tt dg : Int} {B : BT} {k : Nat} (hr : ∀ i, i < k → 0 ≤ lf i ∧ lf i ≤ 2400) (hdg : 0 ≤ dg) (hcap : 20 ≤ cap) (htt : 0 ≤ tt ∧ tt ≤ 20) (h : 0 ≤ B.1 ∧ 0 ≤ B.2.1 ∧ B.2.1 ≤ 20) : ∀ i : Nat, i ≤ k → (0 ≤ (bN lf dy cap tt dg B i).1 ∧ 0 ≤ (bN lf dy cap tt dg B i).2.1 ∧ (bN lf dy cap tt dg B i).2.1 ≤ 20) ∧ B.2.2.2.1 ≤ (bN lf dy cap tt dg B i).2.2.2.1 ∧ B.2.2.2.2.1 ≤ (bN lf dy cap tt dg B i).2.2.2.2.1 ∧ (bN lf dy cap tt dg B i).1 + (bN lf dy cap tt dg B i).2.2.2.1 + (bN lf dy cap tt dg B i).2.2.2.2.1 ≤ B.1 + B.2.2.2.1 + B.2.2.2.2.1 + 2400 * i := by
  intro i
  induction i with
  | zero =>
    intro _
    simp only [bN]
    omega
  | succ i ih =>
    intro hi
    obtain ⟨i1, i2, i3, i4⟩ := ih (by omega)
    have h1 := hr i (by omega)
    have h2 := bS_bd (rain := lf i) (d := dy i) (cap := cap) (tt := tt) (dg := dg) (B := bN lf dy cap tt dg B i) h1.1 hdg hcap htt i1
    simp only [bN]
    omega
theorem bN_mono {lf dy : Nat → Int} {cap tt dg : Int} {B : BT} {k : Nat} (hr : ∀ i, i < k → 0 ≤ lf i ∧ lf i ≤ 2400) (hdg : 0 ≤ dg) (hcap : 20 ≤ cap) (htt : 0 ≤ tt ∧ tt ≤ 20) (h : 0 ≤ B.1 ∧ 0 ≤ B.2.1 ∧ B.2.1 ≤ 20) (i : Nat) : ∀ d : Nat, i + d ≤ k → (bN lf dy cap tt dg B i).2.2.2.1 + (bN lf dy cap tt dg B i).2.2.2.2.1 ≤ (bN lf dy cap tt dg B (i + d)).2.2.2.1 + (bN lf dy cap tt dg B (i + d)).2.2.2.2.1 := by
  intro d
  induction d with
  | zero => intro _; exact Int.le_refl _
  | succ d ih =>
    intro hi
    have h0 := ih (by omega)
    have h1 := hr (i + d) (by omega)
    have h2 := bS_bd (rain := lf (i + d)) (d := dy (i + d)) (cap := cap) (tt := tt) (dg := dg) (B := bN lf dy cap tt dg B (i + d)) h1.1 hdg hcap htt (bN_bd hr hdg hcap htt h (i + d) (by omega)).1
    rw [show i + (d + 1) = (i + d) + 1 by omega]
    simp only [bN]
    omega
set_option maxRecDepth 100000 in
set_option maxHeartbeats 4000000 in
theorem c_Ol_losesAtMost (lc : Launch) (G : Gc) (E : Wd) (nh : Nat) {o os k : Nat} {most cap : Int} {lf dy : Nat → Int} {st : Nat → Int} {n : Nat} {b l r : Nat → Int} {fc fd : Int} {B : BT} {cr cc : Int} {ng : Nat} {gf gs : Nat → Int} {nm : Nat} {t p v : Nat → Int} {tick fell : Int} (h : rOl G E o (k : Int) lf dy) (hs : rSt G E os st n b l r fc fd B cr cc ng gf gs nm t p v tick fell) (hd : os + 16 ≤ o ∨ o + 3 ≤ os) (hk : k ≤ 1000) (hlf : ∀ i, i < k → (0 ≤ lf i ∧ lf i ≤ 2400) ∧ (dy i = 0 ∨ dy i = 1)) (hm : 0 ≤ most ∧ most ≤ 100000) (hc : 20 ≤ cap ∧ cap ≤ 500) (hb : (0 ≤ st 1 ∧ st 1 ≤ 20) ∧ (0 ≤ st 4 ∧ st 4 ≤ 50) ∧ (0 ≤ B.1 ∧ 0 ≤ B.2.1 ∧ B.2.1 ≤ 20) ∧ (0 ≤ B.2.2.2.1 ∧ 0 ≤ B.2.2.2.2.1 ∧ B.1 + B.2.2.2.1 + B.2.2.2.2.1 ≤ 20000000)) : CI lc G 2 yX6_losesAtMost cX6_losesAtMost 9 .boolean [.ref (gb G + o), .int (iI most), .int (iI cap), .ref (gb G + os)] E nh 0 0 (fun v E' => ((v = 1 ∧ (bN lf dy cap (st 1) (st 4) B k).2.2.2.1 + (bN lf dy cap (st 1) (st 4) B k).2.2.2.2.1 ≤ B.2.2.2.1 + B.2.2.2.2.1 + most) ∨ (v = 0 ∧ B.2.2.2.1 + B.2.2.2.2.1 + most < (bN lf dy cap (st 1) (st 4) B k).2.2.2.1 + (bN lf dy cap (st 1) (st 4) B k).2.2.2.2.1)) ∧ (∃ B', E' (os + 7) = some (oBk B')) ∧ Out E E' (os + 7) (os + 8)) := by
  refine CI.mk (by decide +kernel) rfl (Nat.le_of_ble_eq_true rfl) ?_
  intro X hG hL cx hR hI
  subst hG; subst hL
  show V X E (nh, 0, 0) 0 [some (.ref (gb (fG X) + o)), some (.int (iI most)), some (.int (iI cap)), some (.ref (gb (fG X) + os)), none, none, none, none, none] []
  obtain ⟨s0, s1, s2, s3, s4, s5, s6, s7⟩ := hs
  obtain ⟨h0, h1, h2⟩ := h
  have hbd := bN_bd (lf := lf) (dy := dy) (k := k) (fun i hi => (hlf i hi).1) hb.2.1.1 hc.1 hb.1 hb.2.2.1
  have hmo := bN_mono (lf := lf) (dy := dy) (k := k) (fun i hi => (hlf i hi).1) hb.2.1.1 hc.1 hb.1 hb.2.2.1
  generalize hbN : bN lf dy cap (st 1) (st 4) B = bn at hbd hmo ⊢
  have fin : ∀ (i : Nat) (E' : Wd), i ≤ k → E' (os + 7) = some (oBk (bn i)) → Out E E' (os + 7) (os + 8) → (i = k ∨ B.2.2.2.1 + B.2.2.2.2.1 + most < (bn i).2.2.2.1 + (bn i).2.2.2.2.1) → V X E' (nh, 0, 0) 96 [some (.ref (gb (fG X) + o)), some (.int (iI most)), some (.int (iI cap)), some (.ref (gb (fG X) + os)), some (.ref (gb (fG X) + (os + 7))), some (.int (iI (st 1))), some (.int (iI (st 4))), some (.int (iI (B.2.2.2.2.1 + B.2.2.2.1 + most))), some (.int (iI (i : Int)))] [] := by
    intro i E' hi hbk hFr hor
    have hb1 := hbd i hi
    have hm1 := hmo i (k - i) (by omega)
    rw [show i + (k - i) = k by omega] at hm1
    refine v_aload (pc := 96) cx ga4 dX6_losesAtMost_96 ?_
    refine v_getfield (pc := 98) cx flX6_61 (by assumption) gf4 dX6_losesAtMost_98 ?_
    refine v_aload (pc := 101) cx ga4 dX6_losesAtMost_101 ?_
    refine v_getfield (pc := 103) cx flX6_66 (by assumption) gf3 dX6_losesAtMost_103 ?_
    refine v_iadd (pc := 106) cx dX6_losesAtMost_106 ?_
    refine v_iload (pc := 107) cx ga7 dX6_losesAtMost_107 ?_
    refine v_icmp_gt (pc := 109) cx 116 dX6_losesAtMost_109 rfl (by omega) (fun c109 => ?_) (fun c109 => ?_)
    · refine v_iconst (pc := 116) cx dX6_losesAtMost_116 ?_
      refine v_ireturn (pc := 117) cx hI rfl ?_ dX6_losesAtMost_117
      refine ⟨Or.inr ⟨rfl, ?_⟩, ⟨_, hbk⟩, hFr⟩
      rw [hbN]
      omega
    · refine v_iconst (pc := 112) cx dX6_losesAtMost_112 ?_
      refine v_goto (pc := 113) cx 117 dX6_losesAtMost_113 rfl ?_
      refine v_ireturn (pc := 117) cx hI rfl ?_ dX6_losesAtMost_117
      rcases hor with e | e
      · subst e
        refine ⟨Or.inl ⟨rfl, ?_⟩, ⟨_, hbk⟩, hFr⟩
        rw [hbN]
        omega
      · omega
  have loop : ∀ (d i : Nat) (E' : Wd), i ≤ k → k - i < d → E' (os + 7) = some (oBk (bn i)) → Out E E' (os + 7) (os + 8) → V X E' (nh, 0, 0) 40 [some (.ref (gb (fG X) + o)), some (.int (iI most)), some (.int (iI cap)), some (.ref (gb (fG X) + os)), some (.ref (gb (fG X) + (os + 7))), some (.int (iI (st 1))), some (.int (iI (st 4))), some (.int (iI (B.2.2.2.2.1 + B.2.2.2.1 + most))), some (.int (iI (i : Int)))] [] := by
    intro d
    induction d with
    | zero => intro i E' hi hd; omega
    | succ d ih =>
      intro i E' hi hd2 hbk hFr
      have hb1 := hbd i hi
      have g0 := (hFr _ (by omega)).trans h0
      have g1 := (hFr _ (by omega)).trans h1
      have g2 := (hFr _ (by omega)).trans h2
      refine v_iload (pc := 40) cx ga8 dX6_losesAtMost_40 ?_
      refine v_aload_n (pc := 42) cx rfl ga0 dX6_losesAtMost_42 ?_
      refine v_getfield (pc := 43) cx flX6_25 (by assumption) gf2 dX6_losesAtMost_43 ?_
      refine v_icmp_ge (pc := 46) cx 96 dX6_losesAtMost_46 rfl (by omega) (fun c46 => ?_) (fun c46 => ?_)
      · exact fin i E' hi hbk hFr (Or.inl (by omega))
      · refine v_aload (pc := 49) cx ga4 dX6_losesAtMost_49 ?_
        refine v_getfield (pc := 51) cx flX6_61 (by assumption) gf4 dX6_losesAtMost_51 ?_
        refine v_aload (pc := 54) cx ga4 dX6_losesAtMost_54 ?_
        refine v_getfield (pc := 56) cx flX6_66 (by assumption) gf3 dX6_losesAtMost_56 ?_
        refine v_iadd (pc := 59) cx dX6_losesAtMost_59 ?_
        refine v_iload (pc := 60) cx ga7 dX6_losesAtMost_60 ?_
        refine v_icmp_gt (pc := 62) cx 96 dX6_losesAtMost_62 rfl (by omega) (fun c62 => ?_) (fun c62 => ?_)
        · exact fin i E' hi hbk hFr (Or.inr (by omega))
        · have hl1 := hlf i (by omega)
          refine v_aload (pc := 65) cx ga4 dX6_losesAtMost_65 ?_
          refine v_aload_n (pc := 67) cx rfl ga0 dX6_losesAtMost_67 ?_
          refine v_getfield (pc := 68) cx flX6_9 (by assumption) gf0 dX6_losesAtMost_68 ?_
          refine v_iload (pc := 71) cx ga8 dX6_losesAtMost_71 ?_
          refine v_iaload (pc := 73) cx (i) (by assumption) (by omega) dX6_losesAtMost_73 ?_
          refine v_aload_n (pc := 74) cx rfl ga0 dX6_losesAtMost_74 ?_
          refine v_getfield (pc := 75) cx flX6_15 (by assumption) gf1 dX6_losesAtMost_75 ?_
          refine v_iload (pc := 78) cx ga8 dX6_losesAtMost_78 ?_
          refine v_baload (pc := 80) cx (i) (by assumption) (by omega) dX6_losesAtMost_80 ?_
          refine v_iload_n (pc := 81) cx rfl ga2 dX6_losesAtMost_81 ?_
          refine v_iload (pc := 82) cx ga5 dX6_losesAtMost_82 ?_
          refine v_iload (pc := 84) cx ga6 dX6_losesAtMost_84 ?_
          refine v_callVI (pc := 86) cx hR (c_Bk_passTick _ _ _ _ hbk (by omega)) mlX6_69 (by decide) (by assumption) rfl rfl rfl (Nat.le_of_ble_eq_true rfl) ⟨Nat.le_refl _, Nat.le_refl _⟩ dX6_losesAtMost_86 (fun v1 E2 hP => ?_)
          obtain ⟨-, hbk2, hF⟩ := hP
          refine v_pop (pc := 89) cx rfl dX6_losesAtMost_89 ?_
          refine v_iinc (pc := 90) cx ga8 (sa8 rfl) dX6_losesAtMost_90 ?_
          refine v_goto (pc := 93) cx 40 dX6_losesAtMost_93 rfl ?_
          refine ih (i + 1) E2 (by omega) (by omega) ?_ (fun j hj => (hF j (by omega)).trans (hFr j hj))
          rw [hbk2, ← hbN]
          rfl
  refine v_aload_n (pc := 0) cx rfl ga3 dX6_losesAtMost_0 ?_
  refine v_getfield (pc := 1) cx flX6_57 (by assumption) gf3 dX6_losesAtMost_1 ?_
  refine v_astore (pc := 4) cx (sa4 rfl) dX6_losesAtMost_4 ?_
  refine v_aload_n (pc := 6) cx rfl ga3 dX6_losesAtMost_6 ?_
  refine v_getfield (pc := 7) cx flX6_48 (by assumption) gf0 dX6_losesAtMost_7 ?_
  refine v_iconst (pc := 10) cx dX6_losesAtMost_10 ?_
  refine v_iaload (pc := 11) cx (1) (by assumption) (by omega) dX6_losesAtMost_11 ?_
  refine v_istore (pc := 12) cx (sa5 rfl) dX6_losesAtMost_12 ?_
  refine v_aload_n (pc := 14) cx rfl ga3 dX6_losesAtMost_14 ?_
  refine v_getfield (pc := 15) cx flX6_48 (by assumption) gf0 dX6_losesAtMost_15 ?_
  refine v_iconst (pc := 18) cx dX6_losesAtMost_18 ?_
  refine v_iaload (pc := 19) cx (4) (by assumption) (by omega) dX6_losesAtMost_19 ?_
  refine v_istore (pc := 20) cx (sa6 rfl) dX6_losesAtMost_20 ?_
  refine v_aload (pc := 22) cx ga4 dX6_losesAtMost_22 ?_
  refine v_getfield (pc := 24) cx flX6_61 (by assumption) gf4 dX6_losesAtMost_24 ?_
  refine v_aload (pc := 27) cx ga4 dX6_losesAtMost_27 ?_
  refine v_getfield (pc := 29) cx flX6_66 (by assumption) gf3 dX6_losesAtMost_29 ?_
  refine v_iadd (pc := 32) cx dX6_losesAtMost_32 ?_
  refine v_iload_n (pc := 33) cx rfl ga1 dX6_losesAtMost_33 ?_
  refine v_iadd (pc := 34) cx dX6_losesAtMost_34 ?_
  refine v_istore (pc := 35) cx (sa7 rfl) dX6_losesAtMost_35 ?_
  refine v_iconst (pc := 37) cx dX6_losesAtMost_37 ?_
  refine v_istore (pc := 38) cx (sa8 rfl) dX6_losesAtMost_38 ?_
  exact loop (k + 1) 0 E (by omega) (by omega) (by rw [s4, ← hbN]; rfl) (fun _ _ => rfl)
end
section
/-! the text, and what it says -/
def rTx (G : Gc) (E : Wd) (o : Nat) (n : Nat) (ch : Nat → Int) : Prop :=
  E o = some (.inr (10, [.ref (gb G + (o + 1)), .int (iI (n : Int))])) ∧ E (o + 1) = some (AC G 100 ch)
theorem rTx.out {G : Gc} {E E' : Wd} {o n : Nat} {ch : Nat → Int} {x y : Nat} (h : rTx G E o n ch) (hE : Out E E' x y) (hxy : o + 2 ≤ x ∨ y ≤ o) : rTx G E' o n ch :=
  ⟨(hE _ (by omega)).trans h.1, (hE _ (by omega)).trans h.2⟩
/-- the sign at a place, 0 behind the end -/
def chr (tx : List Int) (p : Nat) : Int := tx.getD p 0
def okTx (tx : List Int) : Prop := tx.length ≤ 100 ∧ ∀ c ∈ tx, 32 ≤ c ∧ c ≤ 126
def isTx (G : Gc) (E : Wd) (o : Nat) (tx : List Int) : Prop := ∃ ch, rTx G E o tx.length ch ∧ ∀ j, j < tx.length → ch j = chr tx j
theorem isTx.out {G : Gc} {E E' : Wd} {o : Nat} {tx : List Int} {x y : Nat} (h : isTx G E o tx) (hE : Out E E' x y) (hxy : o + 2 ≤ x ∨ y ≤ o) : isTx G E' o tx := by
  obtain ⟨ch, h1, h2⟩ := h
  exact ⟨ch, h1.out hE hxy, h2⟩
theorem isTx.obj {G : Gc} {E : Wd} {o : Nat} {tx : List Int} (h : isTx G E o tx) : ∃ fs, E o = some (.inr (10, fs)) := by
  obtain ⟨ch, h1, h2⟩ := h
  exact ⟨_, h1.1⟩
theorem chr_out {tx : List Int} {p : Nat} (h : tx.length ≤ p) : chr tx p = 0 := by
  unfold chr
  rw [List.getD_eq_getElem?_getD, List.getElem?_eq_none h]
  rfl
theorem chr_bd {tx : List Int} (h : okTx tx) (p : Nat) : chr tx p = 0 ∨ (32 ≤ chr tx p ∧ chr tx p ≤ 126) := by
  by_cases hp : p < tx.length
  · right
    have : chr tx p = tx[p] := by
      unfold chr
      rw [List.getD_eq_getElem?_getD, List.getElem?_eq_getElem hp]
      rfl
    rw [this]
    exact h.2 _ (List.getElem_mem hp)
  · left
    exact chr_out (by omega)
theorem nar_char {x : Int} (h : 0 ≤ x ∧ x < 65536) : narrow .char (.int (iI x)) = .int (iI x) := by
  obtain ⟨k, rfl⟩ := Int.eq_ofNat_of_zero_le h.1
  rw [iI_nI]
  exact (pk_charN (by omega)).1
set_option maxRecDepth 100000 in
set_option maxHeartbeats 4000000 in
theorem c_Tx_append (lc : Launch) (G : Gc) (E : Wd) (nh : Nat) {o : Nat} {c : Int} {tx : List Int} (h : isTx G E o tx) (hn : tx.length < 100) (hc : 32 ≤ c ∧ c ≤ 126) : CV lc G 0 yX10_append cX10_append 2 [.ref (gb G + o), .int (iI c)] E nh 0 0 (fun E' => isTx G E' o (tx ++ [c]) ∧ Out E E' o (o + 2)) := by
  refine CV.mk (by decide +kernel) rfl (Nat.le_of_ble_eq_true rfl) ?_
  intro X hG hL cx hR hI hini
  subst hG; subst hL
  show V X E (nh, 0, 0) 0 [some (.ref (gb (fG X) + o)), some (.int (iI c))] []
  obtain ⟨ch, ⟨h0, h1⟩, h2⟩ := h
  have hFr : Out E E o (o + 2) := fun j hj => rfl
  refine v_aload_n (pc := 0) cx rfl ga0 dX10_append_0 ?_
  refine v_getfield (pc := 1) cx flX10_15 (by assumption) gf1 dX10_append_1 ?_
  refine v_bipush (pc := 4) cx (by decide) dX10_append_4 ?_
  refine v_icmp_ge (pc := 6) cx 29 dX10_append_6 rfl (by omega) (fun c6 => ?_) (fun c6 => ?_)
  · omega
  · refine v_aload_n (pc := 9) cx rfl ga0 dX10_append_9 ?_
    refine v_getfield (pc := 10) cx flX10_9 (by assumption) gf0 dX10_append_10 ?_
    refine v_aload_n (pc := 13) cx rfl ga0 dX10_append_13 ?_
    refine v_getfield (pc := 14) cx flX10_15 (by assumption) gf1 dX10_append_14 ?_
    refine v_iload_n (pc := 17) cx rfl ga1 dX10_append_17 ?_
    refine v_castore (pc := 18) cx (tx.length) h1 (by omega) (nar_char (by omega)) dX10_append_18 (fun E18 hE18 hF18 => ?_)
    replace h0 := (hF18 _ (by omega)).trans h0
    replace h1 := hE18
    replace hFr := fun j hj => (hF18 j (by omega)).trans (hFr j hj)
    refine v_aload_n (pc := 19) cx rfl ga0 dX10_append_19 ?_
    refine v_dup (pc := 20) cx rfl dX10_append_20 ?_
    refine v_getfield (pc := 21) cx flX10_15 (by assumption) gf1 dX10_append_21 ?_
    refine v_iconst (pc := 24) cx dX10_append_24 ?_
    refine v_iadd (pc := 25) cx dX10_append_25 ?_
    refine v_putfield (pc := 26) cx fpX10_15 h0 ⟨rfl, rfl⟩ pf1 dX10_append_26 (fun E26 hE26 hF26 => ?_)
    replace h0 := hE26
    replace h1 := (hF26 _ (by omega)).trans h1
    replace hFr := fun j hj => (hF26 j (by omega)).trans (hFr j hj)
    refine v_return (pc := 29) cx hI ?_ dX10_append_29
    refine ⟨⟨_, ⟨?_, h1⟩, fun j hj => ?_⟩, hFr⟩
    · rw [List.length_append, List.length_singleton]
      exact h0
    · rw [List.length_append, List.length_singleton] at hj
      unfold chr
      rw [List.getD_eq_getElem?_getD]
      by_cases e : j = tx.length
      · subst e
        rw [upI_s, List.getElem?_append_right (Nat.le_refl _)]
        simp
      · rw [upI_n e, List.getElem?_append_left (by omega), h2 j (by omega)]
        unfold chr
        rw [List.getD_eq_getElem?_getD]
set_option maxRecDepth 100000 in
set_option maxHeartbeats 4000000 in
theorem c_Tx_characterAt (lc : Launch) (G : Gc) (E : Wd) (nh : Nat) {o p : Nat} {tx : List Int} (h : isTx G E o tx) (hx : okTx tx) (hp : p < 1000) : CI lc G 0 yX10_characterAt cX10_characterAt 2 .char [.ref (gb G + o), .int (iI (p : Int))] E nh 0 0 (fun v E' => v = chr tx p ∧ E' = E) := by
  refine CI.mk (by decide +kernel) rfl (Nat.le_of_ble_eq_true rfl) ?_
  intro X hG hL cx hR hI
  subst hG; subst hL
  show V X E (nh, 0, 0) 0 [some (.ref (gb (fG X) + o)), some (.int (iI (p : Int)))] []
  obtain ⟨ch, ⟨h0, h1⟩, h2⟩ := h
  have hl := hx.1
  have hb := chr_bd hx p
  refine v_iload_n (pc := 0) cx rfl ga1 dX10_characterAt_0 ?_
  refine v_if_lt (pc := 1) cx 21 dX10_characterAt_1 rfl (by omega) (fun c1 => ?_) (fun c1 => ?_)
  · omega
  · refine v_iload_n (pc := 4) cx rfl ga1 dX10_characterAt_4 ?_
    refine v_aload_n (pc := 5) cx rfl ga0 dX10_characterAt_5 ?_
    refine v_getfield (pc := 6) cx flX10_15 (by assumption) gf1 dX10_characterAt_6 ?_
    refine v_icmp_ge (pc := 9) cx 21 dX10_characterAt_9 rfl (by omega) (fun c9 => ?_) (fun c9 => ?_)
    · refine v_iconst (pc := 21) cx dX10_characterAt_21 ?_
      refine v_ireturn (pc := 22) cx hI rfl ?_ dX10_characterAt_22
      exact ⟨(chr_out (by omega)).symm, rfl⟩
    · refine v_aload_n (pc := 12) cx rfl ga0 dX10_characterAt_12 ?_
      refine v_getfield (pc := 13) cx flX10_9 (by assumption) gf0 dX10_characterAt_13 ?_
      refine v_iload_n (pc := 16) cx rfl ga1 dX10_characterAt_16 ?_
      refine v_caload (pc := 17) cx (p) (by assumption) (by omega) dX10_characterAt_17 ?_
      refine v_goto (pc := 18) cx 22 dX10_characterAt_18 rfl ?_
      rw [h2 p (by omega)]
      refine v_ireturn (pc := 22) cx hI (nar_char (by omega)) ?_ dX10_characterAt_22
      exact ⟨rfl, rfl⟩
set_option maxRecDepth 100000 in
set_option maxHeartbeats 4000000 in
theorem c_Tx_hasDigitAt (lc : Launch) (G : Gc) (E : Wd) (nh : Nat) {o p : Nat} {tx : List Int} (h : isTx G E o tx) (hx : okTx tx) (hp : p < 1000) : CI lc G 1 yX10_hasDigitAt cX10_hasDigitAt 3 .boolean [.ref (gb G + o), .int (iI (p : Int))] E nh 0 0 (fun v E' => ((v = 1 ∧ 48 ≤ chr tx p ∧ chr tx p ≤ 57) ∨ (v = 0 ∧ ¬ (48 ≤ chr tx p ∧ chr tx p ≤ 57))) ∧ E' = E) := by
  refine CI.mk (by decide +kernel) rfl (Nat.le_of_ble_eq_true rfl) ?_
  intro X hG hL cx hR hI
  subst hG; subst hL
  show V X E (nh, 0, 0) 0 [some (.ref (gb (fG X) + o)), some (.int (iI (p : Int))), none] []
  have hb := chr_bd hx p
  obtain ⟨fs, hfs⟩ := h.obj
  refine v_aload_n (pc := 0) cx rfl ga0 dX10_hasDigitAt_0 ?_
  refine v_iload_n (pc := 1) cx rfl ga1 dX10_hasDigitAt_1 ?_
  refine v_callVI (pc := 2) cx hR (c_Tx_characterAt _ _ _ _ h hx hp) mlX10_19 (by decide) (by assumption) rfl rfl rfl (Nat.le_of_ble_eq_true rfl) ⟨Nat.le_refl _, Nat.le_refl _⟩ dX10_hasDigitAt_2 (fun v2 E2 hP => ?_)
  obtain ⟨rfl, rfl⟩ := hP
  refine v_istore_n (pc := 5) cx rfl (sa2 rfl) dX10_hasDigitAt_5 ?_
  refine v_iload_n (pc := 6) cx rfl ga2 dX10_hasDigitAt_6 ?_
  refine v_bipush (pc := 7) cx (by decide) dX10_hasDigitAt_7 ?_
  refine v_icmp_lt (pc := 9) cx 22 dX10_hasDigitAt_9 rfl (by omega) (fun c9 => ?_) (fun c9 => ?_)
  · refine v_iconst (pc := 22) cx dX10_hasDigitAt_22 ?_
    refine v_ireturn (pc := 23) cx hI rfl ?_ dX10_hasDigitAt_23
    exact ⟨Or.inr ⟨rfl, by omega⟩, rfl⟩
  · refine v_iload_n (pc := 12) cx rfl ga2 dX10_hasDigitAt_12 ?_
    refine v_bipush (pc := 13) cx (by decide) dX10_hasDigitAt_13 ?_
    refine v_icmp_gt (pc := 15) cx 22 dX10_hasDigitAt_15 rfl (by omega) (fun c15 => ?_) (fun c15 => ?_)
    · refine v_iconst (pc := 22) cx dX10_hasDigitAt_22 ?_
      refine v_ireturn (pc := 23) cx hI rfl ?_ dX10_hasDigitAt_23
      exact ⟨Or.inr ⟨rfl, by omega⟩, rfl⟩
    · refine v_iconst (pc := 18) cx dX10_hasDigitAt_18 ?_
      refine v_goto (pc := 19) cx 23 dX10_hasDigitAt_19 rfl ?_
      refine v_ireturn (pc := 23) cx hI rfl ?_ dX10_hasDigitAt_23
      exact ⟨Or.inl ⟨rfl, by omega⟩, rfl⟩
def dgs (tx : List Int) : Nat → Nat → Nat
  | 0, _ => 0
  | k + 1, p => if 48 ≤ chr tx p ∧ chr tx p ≤ 57 then dgs tx k (p + 1) + 1 else 0
def nval (tx : List Int) (p : Nat) : Nat → Int
  | 0 => 0
  | k + 1 => 10 * nval tx p k + (chr tx (p + k) - 48)
def tkRe (tx : List Int) (p : Nat) (sg : Int) : Int := if dgs tx 4 p = 0 then 1 else if chr tx (p + dgs tx 4 p) = sg then 0 else 2
def nx (tx : List Int) (p : Nat) : Nat := p + dgs tx 4 p + 1
def nv (tx : List Int) (p : Nat) : Int := nval tx p (dgs tx 4 p)
theorem dgs_le (tx : List Int) : ∀ k p, dgs tx k p ≤ k := by
  intro k
  induction k with
  | zero => intro p; exact Nat.le_refl _
  | succ k ih =>
    intro p
    simp only [dgs]
    split
    · have := ih (p + 1); omega
    · omega
theorem dgs_all (tx : List Int) : ∀ k p j, j < dgs tx k p → 48 ≤ chr tx (p + j) ∧ chr tx (p + j) ≤ 57 := by
  intro k
  induction k with
  | zero => intro p j hj; simp [dgs] at hj
  | succ k ih =>
    intro p j hj
    simp only [dgs] at hj
    split at hj
    · rename_i h
      cases j with
      | zero => exact h
      | succ j =>
        have := ih (p + 1) j (by omega)
        rw [show p + (j + 1) = p + 1 + j by omega]
        exact this
    · omega
theorem nval_bd (tx : List Int) (p : Nat) : ∀ k, (∀ j, j < k → 48 ≤ chr tx (p + j) ∧ chr tx (p + j) ≤ 57) → 0 ≤ nval tx p k ∧ nval tx p k < 10 ^ k := by
  intro k
  induction k with
  | zero => intro _; simp [nval]
  | succ k ih =>
    intro h
    have h1 := ih (fun j hj => h j (by omega))
    have h2 := h k (by omega)
    simp only [nval]
    rw [Int.pow_succ]
    generalize (10 : Int) ^ k = w at *
    omega
theorem nv_bd (tx : List Int) (p : Nat) : 0 ≤ nv tx p ∧ nv tx p ≤ 9999 := by
  have h := nval_bd tx p (dgs tx 4 p) (fun j hj => dgs_all tx 4 p j hj)
  have h2 := dgs_le tx 4 p
  unfold nv
  have : dgs tx 4 p = 0 ∨ dgs tx 4 p = 1 ∨ dgs tx 4 p = 2 ∨ dgs tx 4 p = 3 ∨ dgs tx 4 p = 4 := by omega
  rcases this with e | e | e | e | e <;> rw [e] at h ⊢ <;> simp at h <;> omega
def rRd (G : Gc) (E : Wd) (o : Nat) (sz pos rea nxt : Int) (b l r : Nat → Int) : Prop :=
  E o = some (.inr (7, [.ref (gb G + (o + 1)), .ref (gb G + (o + 2)), .ref (gb G + (o + 3)), .int (iI sz), .int (iI pos), .int (iI rea), .int (iI nxt)])) ∧ E (o + 1) = some (AI G 12 b) ∧ E (o + 2) = some (AI G 12 l) ∧ E (o + 3) = some (AI G 12 r)
theorem rRd.out {G : Gc} {E E' : Wd} {o : Nat} {sz pos rea nxt : Int} {b l r : Nat → Int} {x y : Nat} (h : rRd G E o sz pos rea nxt b l r) (hE : Out E E' x y) (hxy : o + 4 ≤ x ∨ y ≤ o) : rRd G E' o sz pos rea nxt b l r :=
  ⟨(hE _ (by omega)).trans h.1, (hE _ (by omega)).trans h.2.1, (hE _ (by omega)).trans h.2.2.1, (hE _ (by omega)).trans h.2.2.2⟩
set_option maxRecDepth 100000 in
set_option maxHeartbeats 4000000 in
theorem c_Rd_skip (lc : Launch) (G : Gc) (E : Wd) (nh : Nat) {o ot : Nat} {sz pos rea nxt sg : Int} {b l r : Nat → Int} (h : rRd G E o sz pos rea nxt b l r) (hr : rea ≠ 0 ∧ 0 ≤ rea ∧ rea ≤ 4) : CI lc G 2 yX7_readNumber cX7_readNumber 5 .int [.ref (gb G + o), .ref (gb G + ot), .int (iI sg)] E nh 0 0 (fun v E' => v = 0 ∧ E' = E) := by
  refine CI.mk (by decide +kernel) rfl (Nat.le_of_ble_eq_true rfl) ?_
  intro X hG hL cx hR hI
  subst hG; subst hL
  show V X E (nh, 0, 0) 0 [some (.ref (gb (fG X) + o)), some (.ref (gb (fG X) + ot)), some (.int (iI sg)), none, none] []
  obtain ⟨h0, h1, h2, h3⟩ := h
  refine v_aload_n (pc := 0) cx rfl ga0 dX7_readNumber_0 ?_
  refine v_getfield (pc := 1) cx flX7_28 (by assumption) gf5 dX7_readNumber_1 ?_
  refine v_if_eq (pc := 4) cx 9 dX7_readNumber_4 rfl (by omega) (fun c4 => ?_) (fun c4 => ?_)
  · omega
  · refine v_iconst (pc := 7) cx dX7_readNumber_7 ?_
    refine v_ireturn (pc := 8) cx hI rfl ?_ dX7_readNumber_8
    exact ⟨rfl, rfl⟩
set_option maxRecDepth 100000 in
set_option maxHeartbeats 4000000 in
theorem c_Rd_number (lc : Launch) (G : Gc) (E : Wd) (nh : Nat) {o ot p : Nat} {sz pos sg : Int} {b l r : Nat → Int} {tx : List Int} (h : rRd G E o sz pos 0 (p : Int) b l r) (ht : isTx G E ot tx) (hx : okTx tx) (hd : ot + 2 ≤ o ∨ o + 4 ≤ ot) (hp : p < 500) (hsg : 0 ≤ sg ∧ sg ≤ 200) : CI lc G 2 yX7_readNumber cX7_readNumber 5 .int [.ref (gb G + o), .ref (gb G + ot), .int (iI sg)] E nh 0 0 (fun v E' => v = nv tx p ∧ rRd G E' o sz pos (tkRe tx p sg) (nx tx p : Int) b l r ∧ Out E E' o (o + 1)) := by
  refine CI.mk (by decide +kernel) rfl (Nat.le_of_ble_eq_true rfl) ?_
  intro X hG hL cx hR hI
  subst hG; subst hL
  show V X E (nh, 0, 0) 0 [some (.ref (gb (fG X) + o)), some (.ref (gb (fG X) + ot)), some (.int (iI sg)), none, none] []
  have hdl := dgs_le tx 4 p
  have fin : ∀ (E' : Wd) (re : Int) (lw : Option Value), re = tkRe tx p sg → rRd (fG X) E' o sz pos re ((p + dgs tx 4 p : Nat) : Int) b l r → Out E E' o (o + 1) → V X E' (nh, 0, 0) 94 [some (.ref (gb (fG X) + o)), some (.ref (gb (fG X) + ot)), some (.int (iI sg)), some (.int (iI (nv tx p))), lw] [] := by
    intro E' re lw hre h hFr
    subst hre
    obtain ⟨h0, h1, h2, h3⟩ := h
    refine v_aload_n (pc := 94) cx rfl ga0 dX7_readNumber_94 ?_
    refine v_dup (pc := 95) cx rfl dX7_readNumber_95 ?_
    refine v_getfield (pc := 96) cx flX7_25 (by assumption) gf6 dX7_readNumber_96 ?_
    refine v_iconst (pc := 99) cx dX7_readNumber_99 ?_
    refine v_iadd (pc := 100) cx dX7_readNumber_100 ?_
    refine v_putfield (pc := 101) cx fpX7_25 h0 ⟨rfl, rfl⟩ pf6 dX7_readNumber_101 (fun E101 hE101 hF101 => ?_)
    replace h0 := hE101
    replace h1 := (hF101 _ (by omega)).trans h1
    replace h2 := (hF101 _ (by omega)).trans h2
    replace h3 := (hF101 _ (by omega)).trans h3
    replace hFr := fun j hj => (hF101 j (by omega)).trans (hFr j hj)
    refine v_iload_n (pc := 104) cx rfl ga3 dX7_readNumber_104 ?_
    refine v_ireturn (pc := 105) cx hI rfl ?_ dX7_readNumber_105
    exact ⟨rfl, ⟨h0, h1, h2, h3⟩, hFr⟩
  have fin0 : ∀ (E' : Wd) (k : Nat), k = dgs tx 4 p → rRd (fG X) E' o sz pos 0 ((p + k : Nat) : Int) b l r → Out E E' o (o + 1) → V X E' (nh, 0, 0) 64 [some (.ref (gb (fG X) + o)), some (.ref (gb (fG X) + ot)), some (.int (iI sg)), some (.int (iI (nval tx p k))), some (.int (iI (k : Int)))] [] := by
    intro E' k hk h hFr
    subst hk
    have ht' := ht.out hFr (by omega)
    obtain ⟨fs, hfs⟩ := ht'.obj
    obtain ⟨h0, h1, h2, h3⟩ := h
    refine v_iload (pc := 64) cx ga4 dX7_readNumber_64 ?_
    refine v_if_ne (pc := 66) cx 77 dX7_readNumber_66 rfl (by omega) (fun c66 => ?_) (fun c66 => ?_)
    · refine v_aload_n (pc := 77) cx rfl ga1 dX7_readNumber_77 ?_
      refine v_aload_n (pc := 78) cx rfl ga0 dX7_readNumber_78 ?_
      refine v_getfield (pc := 79) cx flX7_25 (by assumption) gf6 dX7_readNumber_79 ?_
      refine v_callVI (pc := 82) cx hR (c_Tx_characterAt _ _ _ _ ht' hx (by omega)) mlX7_55 (by decide) (by assumption) rfl rfl rfl (Nat.le_of_ble_eq_true rfl) ⟨Nat.le_refl _, Nat.le_refl _⟩ dX7_readNumber_82 (fun v2 E2 hP => ?_)
      obtain ⟨rfl, rfl⟩ := hP
      have hb := chr_bd hx (p + dgs tx 4 p)
      refine v_iload_n (pc := 85) cx rfl ga2 dX7_readNumber_85 ?_
      refine v_icmp_eq (pc := 86) cx 94 dX7_readNumber_86 rfl (by omega) (fun c86 => ?_) (fun c86 => ?_)
      · refine fin _ 0 _ ?_ ⟨h0, h1, h2, h3⟩ hFr
        unfold tkRe
        rw [if_neg (by omega), if_pos (by assumption)]
      · refine v_aload_n (pc := 89) cx rfl ga0 dX7_readNumber_89 ?_
        refine v_iconst (pc := 90) cx dX7_readNumber_90 ?_
        refine v_putfield (pc := 91) cx fpX7_28 h0 ⟨rfl, rfl⟩ pf5 dX7_readNumber_91 (fun E91 hE91 hF91 => ?_)
        replace h0 := hE91
        replace h1 := (hF91 _ (by omega)).trans h1
        replace h2 := (hF91 _ (by omega)).trans h2
        replace h3 := (hF91 _ (by omega)).trans h3
        replace hFr := fun j hj => (hF91 j (by omega)).trans (hFr j hj)
        refine fin _ 2 _ ?_ ⟨h0, h1, h2, h3⟩ hFr
        unfold tkRe
        rw [if_neg (by omega), if_neg (by assumption)]
    · refine v_aload_n (pc := 69) cx rfl ga0 dX7_readNumber_69 ?_
      refine v_iconst (pc := 70) cx dX7_readNumber_70 ?_
      refine v_putfield (pc := 71) cx fpX7_28 h0 ⟨rfl, rfl⟩ pf5 dX7_readNumber_71 (fun E71 hE71 hF71 => ?_)
      replace h0 := hE71
      replace h1 := (hF71 _ (by omega)).trans h1
      replace h2 := (hF71 _ (by omega)).trans h2
      replace h3 := (hF71 _ (by omega)).trans h3
      replace hFr := fun j hj => (hF71 j (by omega)).trans (hFr j hj)
      refine v_goto (pc := 74) cx 94 dX7_readNumber_74 rfl ?_
      refine fin _ 1 _ ?_ ⟨h0, h1, h2, h3⟩ hFr
      unfold tkRe
      rw [if_pos (by omega)]
  have loop : ∀ (d k : Nat) (E' : Wd), k ≤ 4 → 4 - k < d → dgs tx 4 p = k + dgs tx (4 - k) (p + k) → rRd (fG X) E' o sz pos 0 ((p + k : Nat) : Int) b l r → Out E E' o (o + 1) → V X E' (nh, 0, 0) 14 [some (.ref (gb (fG X) + o)), some (.ref (gb (fG X) + ot)), some (.int (iI sg)), some (.int (iI (nval tx p k))), some (.int (iI (k : Int)))] [] := by
    intro d
    induction d with
    | zero => intro k E' hk hd; omega
    | succ d ih =>
      intro k E' hk hd2 hdg h hFr
      have ht' := ht.out hFr (by omega)
      obtain ⟨fs, hfs⟩ := ht'.obj
      obtain ⟨h0, h1, h2, h3⟩ := id h
      refine v_iload (pc := 14) cx ga4 dX7_readNumber_14 ?_
      refine v_iconst (pc := 16) cx dX7_readNumber_16 ?_
      refine v_icmp_ge (pc := 17) cx 64 dX7_readNumber_17 rfl (by omega) (fun c17 => ?_) (fun c17 => ?_)
      · have e : k = 4 := by omega
        subst e
        exact fin0 E' 4 hdg.symm h hFr
      · have e : dgs tx (4 - k) (p + k) = if 48 ≤ chr tx (p + k) ∧ chr tx (p + k) ≤ 57 then dgs tx (4 - (k + 1)) (p + (k + 1)) + 1 else 0 := by
          rw [show 4 - k = (4 - (k + 1)) + 1 by omega]
          rfl
        refine v_aload_n (pc := 20) cx rfl ga1 dX7_readNumber_20 ?_
        refine v_aload_n (pc := 21) cx rfl ga0 dX7_readNumber_21 ?_
        refine v_getfield (pc := 22) cx flX7_25 (by assumption) gf6 dX7_readNumber_22 ?_
        refine v_callVI (pc := 25) cx hR (c_Tx_hasDigitAt _ _ _ _ ht' hx (by omega)) mlX7_51 (by decide) (by assumption) rfl rfl rfl (Nat.le_of_ble_eq_true rfl) ⟨Nat.le_refl _, Nat.le_refl _⟩ dX7_readNumber_25 (fun v2 E2 hP => ?_)
        obtain ⟨hv, rfl⟩ := hP
        refine v_if_eq (pc := 28) cx 64 dX7_readNumber_28 rfl (by omega) (fun c28 => ?_) (fun c28 => ?_)
        · rcases hv with ⟨hv, -⟩ | ⟨-, hv⟩
          · omega
          · rw [if_neg hv] at e
            exact fin0 E2 k (by omega) h hFr
        · rcases hv with ⟨-, hv⟩ | ⟨hv, -⟩
          · rw [if_pos hv] at e
            refine v_bipush (pc := 31) cx (by decide) dX7_readNumber_31 ?_
            refine v_iload_n (pc := 33) cx rfl ga3 dX7_readNumber_33 ?_
            refine v_imul (pc := 34) cx dX7_readNumber_34 ?_
            refine v_aload_n (pc := 35) cx rfl ga1 dX7_readNumber_35 ?_
            refine v_aload_n (pc := 36) cx rfl ga0 dX7_readNumber_36 ?_
            refine v_getfield (pc := 37) cx flX7_25 (by assumption) gf6 dX7_readNumber_37 ?_
            refine v_callVI (pc := 40) cx hR (c_Tx_characterAt _ _ _ _ ht' hx (by omega)) mlX7_55 (by decide) (by assumption) rfl rfl rfl (Nat.le_of_ble_eq_true rfl) ⟨Nat.le_refl _, Nat.le_refl _⟩ dX7_readNumber_40 (fun v3 E3 hP => ?_)
            obtain ⟨rfl, rfl⟩ := hP
            refine v_bipush (pc := 43) cx (by decide) dX7_readNumber_43 ?_
            refine v_isub (pc := 45) cx dX7_readNumber_45 ?_
            refine v_iadd (pc := 46) cx dX7_readNumber_46 ?_
            refine v_istore_n (pc := 47) cx rfl (sa3 rfl) dX7_readNumber_47 ?_
            refine v_aload_n (pc := 48) cx rfl ga0 dX7_readNumber_48 ?_
            refine v_dup (pc := 49) cx rfl dX7_readNumber_49 ?_
            refine v_getfield (pc := 50) cx flX7_25 (by assumption) gf6 dX7_readNumber_50 ?_
            refine v_iconst (pc := 53) cx dX7_readNumber_53 ?_
            refine v_iadd (pc := 54) cx dX7_readNumber_54 ?_
            refine v_putfield (pc := 55) cx fpX7_25 h0 ⟨rfl, rfl⟩ pf6 dX7_readNumber_55 (fun E55 hE55 hF55 => ?_)
            replace h0 := hE55
            replace h1 := (hF55 _ (by omega)).trans h1
            replace h2 := (hF55 _ (by omega)).trans h2
            replace h3 := (hF55 _ (by omega)).trans h3
            replace hFr := fun j hj => (hF55 j (by omega)).trans (hFr j hj)
            refine v_iinc (pc := 58) cx ga4 (sa4 rfl) dX7_readNumber_58 ?_
            refine v_goto (pc := 61) cx 14 dX7_readNumber_61 rfl ?_
            exact ih (k + 1) _ (by omega) (by omega) (by omega) ⟨h0, h1, h2, h3⟩ hFr
          · omega
  obtain ⟨h0, h1, h2, h3⟩ := id h
  refine v_aload_n (pc := 0) cx rfl ga0 dX7_readNumber_0 ?_
  refine v_getfield (pc := 1) cx flX7_28 (by assumption) gf5 dX7_readNumber_1 ?_
  refine v_if_eq (pc := 4) cx 9 dX7_readNumber_4 rfl (by omega) (fun c4 => ?_) (fun c4 => ?_)
  · refine v_iconst (pc := 9) cx dX7_readNumber_9 ?_
    refine v_istore_n (pc := 10) cx rfl (sa3 rfl) dX7_readNumber_10 ?_
    refine v_iconst (pc := 11) cx dX7_readNumber_11 ?_
    refine v_istore (pc := 12) cx (sa4 rfl) dX7_readNumber_12 ?_
    exact loop 5 0 E (by omega) (by omega) (by simp) h (fun _ _ => rfl)
  · omega
end
section
def shR (tx : List Int) (tick told : Int) (sz p : Nat) : Int :=
  if tkRe tx p 43 ≠ 0 then tkRe tx p 43 else if tkRe tx (nx tx p) 42 ≠ 0 then tkRe tx (nx tx p) 42 else if tkRe tx (nx tx (nx tx p)) 59 ≠ 0 then tkRe tx (nx tx (nx tx p)) 59
  else if 5000 < tick + nv tx p ∨ ¬ (1 ≤ nv tx (nx tx p) ∧ nv tx (nx tx p) ≤ 500) ∨ ¬ (1 ≤ nv tx (nx tx (nx tx p)) ∧ nv tx (nx tx (nx tx p)) ≤ 200) then 3
  else if 12 ≤ told + sz then 4 else 0
def shN (tx : List Int) (p : Nat) : Nat := nx tx (nx tx (nx tx p))
def shV (tx : List Int) (tick : Int) (p : Nat) : Int × Int × Int := (tick + nv tx p, nv tx (nx tx p), nv tx (nx tx (nx tx p)))
theorem tkRe_bd (tx : List Int) (p : Nat) (sg : Int) : 0 ≤ tkRe tx p sg ∧ tkRe tx p sg ≤ 2 := by
  unfold tkRe
  split
  · omega
  · split <;> omega
theorem nx_bd (tx : List Int) (p : Nat) : p < nx tx p ∧ nx tx p ≤ p + 5 := by
  have := dgs_le tx 4 p
  unfold nx
  omega
set_option maxRecDepth 100000 in
set_option maxHeartbeats 4000000 in
theorem c_Rd_shower (lc : Launch) (G : Gc) (E : Wd) (nh : Nat) {o ot p sz : Nat} {pos tick told : Int} {b l r : Nat → Int} {tx : List Int} (h : rRd G E o (sz : Int) pos 0 (p : Int) b l r) (ht : isTx G E ot tx) (hx : okTx tx) (hd : ot + 2 ≤ o ∨ o + 4 ≤ ot) (hp : p < 400) (hs : sz ≤ 12) (htk : 0 ≤ tick ∧ tick ≤ 5000) (hto : 0 ≤ told ∧ told ≤ 12) : CV lc G 3 yX7_readShower cX7_readShower 7 [.ref (gb G + o), .ref (gb G + ot), .int (iI tick), .int (iI told)] E nh 0 0 (fun E' => ((shR tx tick told sz p ≠ 0 ∧ ∃ nxt, rRd G E' o sz pos (shR tx tick told sz p) nxt b l r) ∨ (shR tx tick told sz p = 0 ∧ sz < 12 ∧ rRd G E' o ((sz : Int) + 1) pos 0 (shN tx p : Int) (upI b sz (shV tx tick p).1) (upI l sz (shV tx tick p).2.1) (upI r sz (shV tx tick p).2.2))) ∧ Out E E' o (o + 4)) := by
  refine CV.mk (by decide +kernel) rfl (Nat.le_of_ble_eq_true rfl) ?_
  intro X hG hL cx hR hI hini
  subst hG; subst hL
  show V X E (nh, 0, 0) 0 [some (.ref (gb (fG X) + o)), some (.ref (gb (fG X) + ot)), some (.int (iI tick)), some (.int (iI told)), none, none, none] []
  have n1 := nx_bd tx p
  have n2 := nx_bd tx (nx tx p)
  have n3 := nx_bd tx (nx tx (nx tx p))
  have r1 := tkRe_bd tx p 43
  have r2 := tkRe_bd tx (nx tx p) 42
  have r3 := tkRe_bd tx (nx tx (nx tx p)) 59
  have v1 := nv_bd tx p
  have v2 := nv_bd tx (nx tx p)
  have v3 := nv_bd tx (nx tx (nx tx p))
  have bad29 : ∀ (E' : Wd) (re nxt : Int) (x4 x5 x6 : Option Value), re ≠ 0 ∧ 0 ≤ re ∧ re ≤ 2 → shR tx tick told sz p = re → rRd (fG X) E' o sz pos re nxt b l r → Out E E' o (o + 4) → V X E' (nh, 0, 0) 29 [some (.ref (gb (fG X) + o)), some (.ref (gb (fG X) + ot)), some (.int (iI tick)), some (.int (iI told)), x4, x5, x6] [] := by
    intro E' re nxt x4 x5 x6 hre hsh h hFr
    obtain ⟨h0, h1, h2, h3⟩ := h
    refine v_aload_n (pc := 29) cx rfl ga0 dX7_readShower_29 ?_
    refine v_getfield (pc := 30) cx flX7_28 (by assumption) gf5 dX7_readShower_30 ?_
    refine v_if_eq (pc := 33) cx 37 dX7_readShower_33 rfl (by omega) (fun c33 => ?_) (fun c33 => ?_)
    · omega
    · refine v_return (pc := 36) cx hI ?_ dX7_readShower_36
      rw [hsh]
      exact ⟨Or.inl ⟨hre.1, nxt, h0, h1, h2, h3⟩, hFr⟩
  have bad20 : ∀ (E' : Wd) (re nxt : Int) (x4 x5 x6 : Option Value), c1 x5 = true → re ≠ 0 ∧ 0 ≤ re ∧ re ≤ 2 → shR tx tick told sz p = re → rRd (fG X) E' o sz pos re nxt b l r → Out E E' o (o + 4) → V X E' (nh, 0, 0) 20 [some (.ref (gb (fG X) + o)), some (.ref (gb (fG X) + ot)), some (.int (iI tick)), some (.int (iI told)), x4, x5, x6] [] := by
    intro E' re nxt x4 x5 x6 hc5 hre hsh h hFr
    refine v_aload_n (pc := 20) cx rfl ga0 dX7_readShower_20 ?_
    refine v_aload_n (pc := 21) cx rfl ga1 dX7_readShower_21 ?_
    refine v_bipush (pc := 22) cx (by decide) dX7_readShower_22 ?_
    refine v_callVI (pc := 24) cx hR (c_Rd_skip _ _ _ _ h ⟨hre.1, by omega, by omega⟩) mlX7_43 (by decide) h.1 rfl rfl rfl (Nat.le_of_ble_eq_true rfl) ⟨Nat.le_refl _, Nat.le_refl _⟩ dX7_readShower_24 (fun v E2 hP => ?_)
    obtain ⟨rfl, rfl⟩ := hP
    refine v_istore (pc := 27) cx (sa6 hc5) dX7_readShower_27 ?_
    exact bad29 E2 re nxt _ _ _ hre hsh h hFr
  have bad11 : ∀ (E' : Wd) (re nxt : Int) (x4 x5 x6 : Option Value), c1 x4 = true → re ≠ 0 ∧ 0 ≤ re ∧ re ≤ 2 → shR tx tick told sz p = re → rRd (fG X) E' o sz pos re nxt b l r → Out E E' o (o + 4) → V X E' (nh, 0, 0) 11 [some (.ref (gb (fG X) + o)), some (.ref (gb (fG X) + ot)), some (.int (iI tick)), some (.int (iI told)), x4, x5, x6] [] := by
    intro E' re nxt x4 x5 x6 hc4 hre hsh h hFr
    refine v_aload_n (pc := 11) cx rfl ga0 dX7_readShower_11 ?_
    refine v_aload_n (pc := 12) cx rfl ga1 dX7_readShower_12 ?_
    refine v_bipush (pc := 13) cx (by decide) dX7_readShower_13 ?_
    refine v_callVI (pc := 15) cx hR (c_Rd_skip _ _ _ _ h ⟨hre.1, by omega, by omega⟩) mlX7_43 (by decide) h.1 rfl rfl rfl (Nat.le_of_ble_eq_true rfl) ⟨Nat.le_refl _, Nat.le_refl _⟩ dX7_readShower_15 (fun v E2 hP => ?_)
    obtain ⟨rfl, rfl⟩ := hP
    refine v_istore (pc := 18) cx (sa5 hc4) dX7_readShower_18 ?_
    exact bad20 E2 re nxt _ _ _ rfl hre hsh h hFr
  refine v_iload_n (pc := 0) cx rfl ga2 dX7_readShower_0 ?_
  refine v_aload_n (pc := 1) cx rfl ga0 dX7_readShower_1 ?_
  refine v_aload_n (pc := 2) cx rfl ga1 dX7_readShower_2 ?_
  refine v_bipush (pc := 3) cx (by decide) dX7_readShower_3 ?_
  refine v_callVI (pc := 5) cx hR (c_Rd_number _ _ _ _ h ht hx hd (by omega) (by omega)) mlX7_43 (by decide) h.1 rfl rfl rfl (Nat.le_of_ble_eq_true rfl) ⟨Nat.le_refl _, Nat.le_refl _⟩ dX7_readShower_5 (fun w1 E1 hP => ?_)
  obtain ⟨rfl, h, hFr⟩ := hP
  refine v_iadd (pc := 8) cx dX7_readShower_8 ?_
  refine v_istore (pc := 9) cx (sa4 rfl) dX7_readShower_9 ?_
  by_cases q1 : tkRe tx p 43 = 0
  · rw [q1] at h
    have ht1 := ht.out hFr (by omega)
    refine v_aload_n (pc := 11) cx rfl ga0 dX7_readShower_11 ?_
    refine v_aload_n (pc := 12) cx rfl ga1 dX7_readShower_12 ?_
    refine v_bipush (pc := 13) cx (by decide) dX7_readShower_13 ?_
    refine v_callVI (pc := 15) cx hR (c_Rd_number _ _ _ _ h ht1 hx hd (by omega) (by omega)) mlX7_43 (by decide) h.1 rfl rfl rfl (Nat.le_of_ble_eq_true rfl) ⟨Nat.le_refl _, Nat.le_refl _⟩ dX7_readShower_15 (fun w2 E2 hP => ?_)
    obtain ⟨rfl, h, hF⟩ := hP
    replace hFr : Out E E2 o (o + 1) := fun j hj => (hF j hj).trans (hFr j hj)
    refine v_istore (pc := 18) cx (sa5 rfl) dX7_readShower_18 ?_
    by_cases q2 : tkRe tx (nx tx p) 42 = 0
    · rw [q2] at h
      have ht2 := ht.out hFr (by omega)
      refine v_aload_n (pc := 20) cx rfl ga0 dX7_readShower_20 ?_
      refine v_aload_n (pc := 21) cx rfl ga1 dX7_readShower_21 ?_
      refine v_bipush (pc := 22) cx (by decide) dX7_readShower_22 ?_
      refine v_callVI (pc := 24) cx hR (c_Rd_number _ _ _ _ h ht2 hx hd (by omega) (by omega)) mlX7_43 (by decide) h.1 rfl rfl rfl (Nat.le_of_ble_eq_true rfl) ⟨Nat.le_refl _, Nat.le_refl _⟩ dX7_readShower_24 (fun w3 E3 hP => ?_)
      obtain ⟨rfl, h, hF⟩ := hP
      replace hFr : Out E E3 o (o + 1) := fun j hj => (hF j hj).trans (hFr j hj)
      refine v_istore (pc := 27) cx (sa6 rfl) dX7_readShower_27 ?_
      by_cases q3 : tkRe tx (nx tx (nx tx p)) 59 = 0
      · rw [q3] at h
        obtain ⟨h0, h1, h2, h3⟩ := h
        replace hFr : Out E E3 o (o + 4) := fun j hj => hFr j (by omega)
        have bad3 : (5000 < tick + nv tx p ∨ ¬ (1 ≤ nv tx (nx tx p) ∧ nv tx (nx tx p) ≤ 500) ∨ ¬ (1 ≤ nv tx (nx tx (nx tx p)) ∧ nv tx (nx tx (nx tx p)) ≤ 200)) → V X E3 (nh, 0, 0) 69 [some (.ref (gb (fG X) + o)), some (.ref (gb (fG X) + ot)), some (.int (iI tick)), some (.int (iI told)), some (.int (iI (tick + nv tx p))), some (.int (iI (nv tx (nx tx p)))), some (.int (iI (nv tx (nx tx (nx tx p)))))] [] := by
          intro hb
          refine v_aload_n (pc := 69) cx rfl ga0 dX7_readShower_69 ?_
          refine v_iconst (pc := 70) cx dX7_readShower_70 ?_
          refine v_putfield (pc := 71) cx fpX7_28 h0 ⟨rfl, rfl⟩ pf5 dX7_readShower_71 (fun E71 hE71 hF71 => ?_)
          replace h0 := hE71
          replace h1 := (hF71 _ (by omega)).trans h1
          replace h2 := (hF71 _ (by omega)).trans h2
          replace h3 := (hF71 _ (by omega)).trans h3
          replace hFr := fun j hj => (hF71 j (by omega)).trans (hFr j hj)
          refine v_goto (pc := 74) cx 148 dX7_readShower_74 rfl ?_
          refine v_return (pc := 148) cx hI ?_ dX7_readShower_148
          have e : shR tx tick told sz p = 3 := by
            unfold shR
            rw [if_neg (by omega), if_neg (by omega), if_neg (by omega), if_pos hb]
          rw [e]
          exact ⟨Or.inl ⟨by decide, _, h0, h1, h2, h3⟩, hFr⟩
        have bad4 : ¬ (5000 < tick + nv tx p ∨ ¬ (1 ≤ nv tx (nx tx p) ∧ nv tx (nx tx p) ≤ 500) ∨ ¬ (1 ≤ nv tx (nx tx (nx tx p)) ∧ nv tx (nx tx (nx tx p)) ≤ 200)) → 12 ≤ told + sz → V X E3 (nh, 0, 0) 97 [some (.ref (gb (fG X) + o)), some (.ref (gb (fG X) + ot)), some (.int (iI tick)), some (.int (iI told)), some (.int (iI (tick + nv tx p))), some (.int (iI (nv tx (nx tx p)))), some (.int (iI (nv tx (nx tx (nx tx p)))))] [] := by
          intro hb hb2
          refine v_aload_n (pc := 97) cx rfl ga0 dX7_readShower_97 ?_
          refine v_iconst (pc := 98) cx dX7_readShower_98 ?_
          refine v_putfield (pc := 99) cx fpX7_28 h0 ⟨rfl, rfl⟩ pf5 dX7_readShower_99 (fun E99 hE99 hF99 => ?_)
          replace h0 := hE99
          replace h1 := (hF99 _ (by omega)).trans h1
          replace h2 := (hF99 _ (by omega)).trans h2
          replace h3 := (hF99 _ (by omega)).trans h3
          replace hFr := fun j hj => (hF99 j (by omega)).trans (hFr j hj)
          refine v_goto (pc := 102) cx 148 dX7_readShower_102 rfl ?_
          refine v_return (pc := 148) cx hI ?_ dX7_readShower_148
          have e : shR tx tick told sz p = 4 := by
            unfold shR
            rw [if_neg (by omega), if_neg (by omega), if_neg (by omega), if_neg hb, if_pos hb2]
          rw [e]
          exact ⟨Or.inl ⟨by decide, _, h0, h1, h2, h3⟩, hFr⟩
        refine v_aload_n (pc := 29) cx rfl ga0 dX7_readShower_29 ?_
        refine v_getfield (pc := 30) cx flX7_28 (by assumption) gf5 dX7_readShower_30 ?_
        refine v_if_eq (pc := 33) cx 37 dX7_readShower_33 rfl (by omega) (fun c33 => ?_) (fun c33 => ?_)
        · refine v_iload (pc := 37) cx ga4 dX7_readShower_37 ?_
          refine v_sipush (pc := 39) cx (by decide) dX7_readShower_39 ?_
          refine v_icmp_gt (pc := 42) cx 69 dX7_readShower_42 rfl (by omega) (fun c42 => ?_) (fun c42 => ?_)
          · exact bad3 (Or.inl (by omega))
          · refine v_iload (pc := 45) cx ga5 dX7_readShower_45 ?_
            refine v_iconst (pc := 47) cx dX7_readShower_47 ?_
            refine v_sipush (pc := 48) cx (by decide) dX7_readShower_48 ?_
            refine v_callSI (pc := 51) cx hR (c_isWithin _ _ _ _ (by omega)) mlX7_47 (by decide) rfl (Nat.le_of_ble_eq_true rfl) ⟨Nat.le_refl _, Nat.le_refl _⟩ dX7_readShower_51 (fun y1 E4 hP => ?_)
            obtain ⟨hy, rfl⟩ := hP
            refine v_if_eq (pc := 54) cx 69 dX7_readShower_54 rfl (by omega) (fun c54 => ?_) (fun c54 => ?_)
            · exact bad3 (Or.inr (Or.inl (by omega)))
            · refine v_iload (pc := 57) cx ga6 dX7_readShower_57 ?_
              refine v_iconst (pc := 59) cx dX7_readShower_59 ?_
              refine v_sipush (pc := 60) cx (by decide) dX7_readShower_60 ?_
              refine v_callSI (pc := 63) cx hR (c_isWithin _ _ _ _ (by omega)) mlX7_47 (by decide) rfl (Nat.le_of_ble_eq_true rfl) ⟨Nat.le_refl _, Nat.le_refl _⟩ dX7_readShower_63 (fun y2 E5 hP => ?_)
              obtain ⟨hy2, rfl⟩ := hP
              refine v_if_ne (pc := 66) cx 77 dX7_readShower_66 rfl (by omega) (fun c66 => ?_) (fun c66 => ?_)
              · refine v_iload_n (pc := 77) cx rfl ga3 dX7_readShower_77 ?_
                refine v_aload_n (pc := 78) cx rfl ga0 dX7_readShower_78 ?_
                refine v_getfield (pc := 79) cx flX7_21 (by assumption) gf3 dX7_readShower_79 ?_
                refine v_iadd (pc := 82) cx dX7_readShower_82 ?_
                refine v_bipush (pc := 83) cx (by decide) dX7_readShower_83 ?_
                refine v_icmp_ge (pc := 85) cx 97 dX7_readShower_85 rfl (by omega) (fun c85 => ?_) (fun c85 => ?_)
                · exact bad4 (by omega) (by omega)
                · refine v_aload_n (pc := 88) cx rfl ga0 dX7_readShower_88 ?_
                  refine v_getfield (pc := 89) cx flX7_21 (by assumption) gf3 dX7_readShower_89 ?_
                  refine v_bipush (pc := 92) cx (by decide) dX7_readShower_92 ?_
                  refine v_icmp_lt (pc := 94) cx 105 dX7_readShower_94 rfl (by omega) (fun c94 => ?_) (fun c94 => ?_)
                  · refine v_aload_n (pc := 105) cx rfl ga0 dX7_readShower_105 ?_
                    refine v_getfield (pc := 106) cx flX7_9 (by assumption) gf0 dX7_readShower_106 ?_
                    refine v_aload_n (pc := 109) cx rfl ga0 dX7_readShower_109 ?_
                    refine v_getfield (pc := 110) cx flX7_21 (by assumption) gf3 dX7_readShower_110 ?_
                    refine v_iload (pc := 113) cx ga4 dX7_readShower_113 ?_
                    refine v_iastore (pc := 115) cx (sz) h1 (by omega) dX7_readShower_115 (fun E115 hE115 hF115 => ?_)
                    replace h0 := (hF115 _ (by omega)).trans h0
                    replace h1 := hE115
                    replace h2 := (hF115 _ (by omega)).trans h2
                    replace h3 := (hF115 _ (by omega)).trans h3
                    replace hFr := fun j hj => (hF115 j (by omega)).trans (hFr j hj)
                    refine v_aload_n (pc := 116) cx rfl ga0 dX7_readShower_116 ?_
                    refine v_getfield (pc := 117) cx flX7_15 (by assumption) gf1 dX7_readShower_117 ?_
                    refine v_aload_n (pc := 120) cx rfl ga0 dX7_readShower_120 ?_
                    refine v_getfield (pc := 121) cx flX7_21 (by assumption) gf3 dX7_readShower_121 ?_
                    refine v_iload (pc := 124) cx ga5 dX7_readShower_124 ?_
                    refine v_iastore (pc := 126) cx (sz) h2 (by omega) dX7_readShower_126 (fun E126 hE126 hF126 => ?_)
                    replace h0 := (hF126 _ (by omega)).trans h0
                    replace h1 := (hF126 _ (by omega)).trans h1
                    replace h2 := hE126
                    replace h3 := (hF126 _ (by omega)).trans h3
                    replace hFr := fun j hj => (hF126 j (by omega)).trans (hFr j hj)
                    refine v_aload_n (pc := 127) cx rfl ga0 dX7_readShower_127 ?_
                    refine v_getfield (pc := 128) cx flX7_18 (by assumption) gf2 dX7_readShower_128 ?_
                    refine v_aload_n (pc := 131) cx rfl ga0 dX7_readShower_131 ?_
                    refine v_getfield (pc := 132) cx flX7_21 (by assumption) gf3 dX7_readShower_132 ?_
                    refine v_iload (pc := 135) cx ga6 dX7_readShower_135 ?_
                    refine v_iastore (pc := 137) cx (sz) h3 (by omega) dX7_readShower_137 (fun E137 hE137 hF137 => ?_)
                    replace h0 := (hF137 _ (by omega)).trans h0
                    replace h1 := (hF137 _ (by omega)).trans h1
                    replace h2 := (hF137 _ (by omega)).trans h2
                    replace h3 := hE137
                    replace hFr := fun j hj => (hF137 j (by omega)).trans (hFr j hj)
                    refine v_aload_n (pc := 138) cx rfl ga0 dX7_readShower_138 ?_
                    refine v_dup (pc := 139) cx rfl dX7_readShower_139 ?_
                    refine v_getfield (pc := 140) cx flX7_21 (by assumption) gf3 dX7_readShower_140 ?_
                    refine v_iconst (pc := 143) cx dX7_readShower_143 ?_
                    refine v_iadd (pc := 144) cx dX7_readShower_144 ?_
                    refine v_putfield (pc := 145) cx fpX7_21 h0 ⟨rfl, rfl⟩ pf3 dX7_readShower_145 (fun E145 hE145 hF145 => ?_)
                    replace h0 := hE145
                    replace h1 := (hF145 _ (by omega)).trans h1
                    replace h2 := (hF145 _ (by omega)).trans h2
                    replace h3 := (hF145 _ (by omega)).trans h3
                    replace hFr := fun j hj => (hF145 j (by omega)).trans (hFr j hj)
                    refine v_return (pc := 148) cx hI ?_ dX7_readShower_148
                    have e : shR tx tick told sz p = 0 := by
                      unfold shR
                      rw [if_neg (by omega), if_neg (by omega), if_neg (by omega), if_neg (by omega), if_neg (by omega)]
                    exact ⟨Or.inr ⟨e, by omega, h0, h1, h2, h3⟩, hFr⟩
                  · exact bad4 (by omega) (by omega)
              · exact bad3 (Or.inr (Or.inr (by omega)))
        · omega
      · refine bad29 E3 _ _ _ _ _ ⟨q3, by omega, by omega⟩ ?_ h (fun j hj => hFr j (by omega))
        unfold shR
        rw [if_neg (by omega), if_neg (by omega), if_pos q3]
    · refine bad20 E2 _ _ _ _ _ rfl ⟨q2, by omega, by omega⟩ ?_ h (fun j hj => hFr j (by omega))
      unfold shR
      rw [if_neg (by omega), if_pos q2]
  · refine bad11 E1 _ _ _ _ _ rfl ⟨q1, by omega, by omega⟩ ?_ h (fun j hj => hFr j (by omega))
    unfold shR
    rw [if_pos q1]
/-- the text read on from a place, some showers read already: place and reason of the fault (0: none), all showers -/
def prs (tx : List Int) (tick told : Int) : Nat → List (Int × Int × Int) → Nat → Nat × Int × List (Int × Int × Int)
  | 0, acc, p => (p, 0, acc)
  | k + 1, acc, p => if p < tx.length then (if shR tx tick told acc.length p = 0 then prs tx tick told k (acc ++ [shV tx tick p]) (shN tx p) else (p, shR tx tick told acc.length p, acc)) else (p, 0, acc)
theorem shR_bd {tx : List Int} {tick told : Int} {sz p : Nat} : 0 ≤ shR tx tick told sz p ∧ shR tx tick told sz p ≤ 4 := by
  have r1 := tkRe_bd tx p 43
  have r2 := tkRe_bd tx (nx tx p) 42
  have r3 := tkRe_bd tx (nx tx (nx tx p)) 59
  unfold shR
  split
  · omega
  · split
    · omega
    · split
      · omega
      · split
        · omega
        · split <;> omega
set_option maxRecDepth 100000 in
set_option maxHeartbeats 4000000 in
theorem c_Rd_read (lc : Launch) (G : Gc) (E : Wd) (nh : Nat) {o ot : Nat} {sz0 pos0 rea0 nxt0 tick told : Int} {b l r : Nat → Int} {tx : List Int} (h : rRd G E o sz0 pos0 rea0 nxt0 b l r) (ht : isTx G E ot tx) (hx : okTx tx) (hd : ot + 2 ≤ o ∨ o + 4 ≤ ot) (htk : 0 ≤ tick ∧ tick ≤ 5000) (hto : 0 ≤ told ∧ told ≤ 12) : CV lc G 4 yX7_read cX7_read 5 [.ref (gb G + o), .ref (gb G + ot), .int (iI tick), .int (iI told)] E nh 0 0 (fun E' => (∃ (pos nxt : Int) (sz : Nat) (b' l' r' : Nat → Int), rRd G E' o sz pos (prs tx tick told 13 [] 0).2.1 nxt b' l' r' ∧ sz ≤ 12 ∧ lst b' l' r' sz = (prs tx tick told 13 [] 0).2.2 ∧ ((prs tx tick told 13 [] 0).2.1 ≠ 0 → pos = ((prs tx tick told 13 [] 0).1 : Int))) ∧ Out E E' o (o + 4)) := by
  refine CV.mk (by decide +kernel) rfl (Nat.le_of_ble_eq_true rfl) ?_
  intro X hG hL cx hR hI hini
  subst hG; subst hL
  show V X E (nh, 0, 0) 0 [some (.ref (gb (fG X) + o)), some (.ref (gb (fG X) + ot)), some (.int (iI tick)), some (.int (iI told)), none] []
  have hlen := hx.1
  have bad : ∀ (E' : Wd) (i sz : Nat) (pos re nxt : Int) (b' l' r' : Nat → Int), i ≤ 13 → re ≠ 0 ∧ 0 ≤ re ∧ re ≤ 4 → rRd (fG X) E' o sz pos re nxt b' l' r' → Out E E' o (o + 4) → ((∃ (pos nxt : Int) (sz : Nat) (b' l' r' : Nat → Int), rRd (fG X) E' o sz pos (prs tx tick told 13 [] 0).2.1 nxt b' l' r' ∧ sz ≤ 12 ∧ lst b' l' r' sz = (prs tx tick told 13 [] 0).2.2 ∧ ((prs tx tick told 13 [] 0).2.1 ≠ 0 → pos = ((prs tx tick told 13 [] 0).1 : Int)))) → V X E' (nh, 0, 0) 18 [some (.ref (gb (fG X) + o)), some (.ref (gb (fG X) + ot)), some (.int (iI tick)), some (.int (iI told)), some (.int (iI (i : Int)))] [] := by
    intro E' i sz pos re nxt b' l' r' hi hre h hFr hres
    obtain ⟨h0, h1, h2, h3⟩ := h
    refine v_iload (pc := 18) cx ga4 dX7_read_18 ?_
    refine v_bipush (pc := 20) cx (by decide) dX7_read_20 ?_
    refine v_icmp_gt (pc := 22) cx 64 dX7_read_22 rfl (by omega) (fun c22 => ?_) (fun c22 => ?_)
    · refine v_return (pc := 64) cx hI ?_ dX7_read_64
      exact ⟨hres, hFr⟩
    · refine v_aload_n (pc := 25) cx rfl ga0 dX7_read_25 ?_
      refine v_getfield (pc := 26) cx flX7_28 (by assumption) gf5 dX7_read_26 ?_
      refine v_if_ne (pc := 29) cx 64 dX7_read_29 rfl (by omega) (fun c29 => ?_) (fun c29 => ?_)
      · refine v_return (pc := 64) cx hI ?_ dX7_read_64
        exact ⟨hres, hFr⟩
      · omega
  have loop : ∀ (d i p : Nat) (pos : Int) (b' l' r' : Nat → Int) (E' : Wd), i ≤ 12 → 13 - i < d → p ≤ 120 → rRd (fG X) E' o (i : Int) pos 0 (p : Int) b' l' r' → Out E E' o (o + 4) → prs tx tick told 13 [] 0 = prs tx tick told (13 - i) (lst b' l' r' i) p → V X E' (nh, 0, 0) 18 [some (.ref (gb (fG X) + o)), some (.ref (gb (fG X) + ot)), some (.int (iI tick)), some (.int (iI told)), some (.int (iI (i : Int)))] [] := by
    intro d
    induction d with
    | zero => intro i p pos b' l' r' E' hi hd; omega
    | succ d ih =>
      intro i p pos b' l' r' E' hi hd2 hp h hFr hprs
      have ht' := ht.out hFr (by omega)
      obtain ⟨h0, h1, h2, h3⟩ := id h
      have hst : prs tx tick told (13 - i) (lst b' l' r' i) p = if p < tx.length then (if shR tx tick told i p = 0 then prs tx tick told (13 - (i + 1)) (lst b' l' r' i ++ [shV tx tick p]) (shN tx p) else (p, shR tx tick told i p, lst b' l' r' i)) else (p, 0, lst b' l' r' i) := by
        rw [show 13 - i = (13 - (i + 1)) + 1 by omega]
        simp only [prs, lst_len]
      rw [hst] at hprs
      obtain ⟨ch, ⟨t0, t1⟩, t2⟩ := id ht'
      refine v_iload (pc := 18) cx ga4 dX7_read_18 ?_
      refine v_bipush (pc := 20) cx (by decide) dX7_read_20 ?_
      refine v_icmp_gt (pc := 22) cx 64 dX7_read_22 rfl (by omega) (fun c22 => ?_) (fun c22 => ?_)
      · omega
      · refine v_aload_n (pc := 25) cx rfl ga0 dX7_read_25 ?_
        refine v_getfield (pc := 26) cx flX7_28 (by assumption) gf5 dX7_read_26 ?_
        refine v_if_ne (pc := 29) cx 64 dX7_read_29 rfl (by omega) (fun c29 => ?_) (fun c29 => ?_)
        · omega
        · refine v_aload_n (pc := 32) cx rfl ga0 dX7_read_32 ?_
          refine v_getfield (pc := 33) cx flX7_25 (by assumption) gf6 dX7_read_33 ?_
          refine v_aload_n (pc := 36) cx rfl ga1 dX7_read_36 ?_
          refine v_getfield (pc := 37) cx flX7_31 (by assumption) gf1 dX7_read_37 ?_
          refine v_icmp_ge (pc := 40) cx 64 dX7_read_40 rfl (by omega) (fun c40 => ?_) (fun c40 => ?_)
          · refine v_return (pc := 64) cx hI ?_ dX7_read_64
            rw [if_neg (by omega)] at hprs
            rw [hprs]
            exact ⟨⟨pos, p, i, b', l', r', ⟨h0, h1, h2, h3⟩, hi, rfl, fun q => absurd rfl q⟩, hFr⟩
          · rw [if_pos (by omega)] at hprs
            refine v_aload_n (pc := 43) cx rfl ga0 dX7_read_43 ?_
            refine v_aload_n (pc := 44) cx rfl ga0 dX7_read_44 ?_
            refine v_getfield (pc := 45) cx flX7_25 (by assumption) gf6 dX7_read_45 ?_
            refine v_putfield (pc := 48) cx fpX7_36 h0 ⟨rfl, rfl⟩ pf4 dX7_read_48 (fun E48 hE48 hF48 => ?_)
            replace h0 := hE48
            replace h1 := (hF48 _ (by omega)).trans h1
            replace h2 := (hF48 _ (by omega)).trans h2
            replace h3 := (hF48 _ (by omega)).trans h3
            replace hFr := fun j hj => (hF48 j (by omega)).trans (hFr j hj)
            have ht2 := ht.out hFr (by omega)
            refine v_aload_n (pc := 51) cx rfl ga0 dX7_read_51 ?_
            refine v_aload_n (pc := 52) cx rfl ga1 dX7_read_52 ?_
            refine v_iload_n (pc := 53) cx rfl ga2 dX7_read_53 ?_
            refine v_iload_n (pc := 54) cx rfl ga3 dX7_read_54 ?_
            refine v_callVV (pc := 55) cx hR (c_Rd_shower _ _ _ _ ⟨h0, h1, h2, h3⟩ ht2 hx hd (by omega) hi htk hto) mlX7_39 (by decide) h0 rfl rfl rfl (Nat.le_of_ble_eq_true rfl) ⟨Nat.le_refl _, Nat.le_refl _⟩ dX7_read_55 (fun E2 hP => ?_)
            obtain ⟨hor, hF⟩ := hP
            replace hFr : Out E E2 o (o + 4) := fun j hj => (hF j hj).trans (hFr j hj)
            rcases hor with ⟨q, nxt, h4⟩ | ⟨q, q2, h4⟩
            · rw [if_neg q] at hprs
              refine v_iinc (pc := 58) cx ga4 (sa4 rfl) dX7_read_58 ?_
              refine v_goto (pc := 61) cx 18 dX7_read_61 rfl ?_
              have hb := shR_bd (tx := tx) (tick := tick) (told := told) (sz := i) (p := p)
              refine bad E2 (i + 1) i _ _ _ _ _ _ (by omega) ⟨q, hb.1, hb.2⟩ h4 hFr ?_
              rw [hprs]
              exact ⟨_, _, i, b', l', r', h4, hi, rfl, fun _ => rfl⟩
            · rw [if_pos q] at hprs
              refine v_iinc (pc := 58) cx ga4 (sa4 rfl) dX7_read_58 ?_
              refine v_goto (pc := 61) cx 18 dX7_read_61 rfl ?_
              have n1 := nx_bd tx p
              have n2 := nx_bd tx (nx tx p)
              have n3 := nx_bd tx (nx tx (nx tx p))
              refine ih (i + 1) (shN tx p) p _ _ _ E2 (by omega) (by omega) (by unfold shN; omega) h4 hFr ?_
              rw [lst_push]
              exact hprs
  obtain ⟨h0, h1, h2, h3⟩ := h
  have hFr : Out E E o (o + 4) := fun j hj => rfl
  refine v_aload_n (pc := 0) cx rfl ga0 dX7_read_0 ?_
  refine v_iconst (pc := 1) cx dX7_read_1 ?_
  refine v_putfield (pc := 2) cx fpX7_21 h0 ⟨rfl, rfl⟩ pf3 dX7_read_2 (fun E2 hE2 hF2 => ?_)
  replace h0 := hE2
  replace h1 := (hF2 _ (by omega)).trans h1
  replace h2 := (hF2 _ (by omega)).trans h2
  replace h3 := (hF2 _ (by omega)).trans h3
  replace hFr := fun j hj => (hF2 j (by omega)).trans (hFr j hj)
  refine v_aload_n (pc := 5) cx rfl ga0 dX7_read_5 ?_
  refine v_iconst (pc := 6) cx dX7_read_6 ?_
  refine v_putfield (pc := 7) cx fpX7_25 h0 ⟨rfl, rfl⟩ pf6 dX7_read_7 (fun E7 hE7 hF7 => ?_)
  replace h0 := hE7
  replace h1 := (hF7 _ (by omega)).trans h1
  replace h2 := (hF7 _ (by omega)).trans h2
  replace h3 := (hF7 _ (by omega)).trans h3
  replace hFr := fun j hj => (hF7 j (by omega)).trans (hFr j hj)
  refine v_aload_n (pc := 10) cx rfl ga0 dX7_read_10 ?_
  refine v_iconst (pc := 11) cx dX7_read_11 ?_
  refine v_putfield (pc := 12) cx fpX7_28 h0 ⟨rfl, rfl⟩ pf5 dX7_read_12 (fun E12 hE12 hF12 => ?_)
  replace h0 := hE12
  replace h1 := (hF12 _ (by omega)).trans h1
  replace h2 := (hF12 _ (by omega)).trans h2
  replace h3 := (hF12 _ (by omega)).trans h3
  replace hFr := fun j hj => (hF12 j (by omega)).trans (hFr j hj)
  refine v_iconst (pc := 15) cx dX7_read_15 ?_
  refine v_istore (pc := 16) cx (sa4 rfl) dX7_read_16 ?_
  exact loop 14 0 0 _ _ _ _ _ (by omega) (by omega) (by omega) ⟨h0, h1, h2, h3⟩ hFr rfl
end
