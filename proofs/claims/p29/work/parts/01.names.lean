/-- a private method of a class that the tables say can be made, by its rows of tables_1 -/
def lw_okq (q : MethodName × Nat) : Prop := (q.1.cls ≠ "java/lang/invoke/MethodHandle" ∧ q.1.cls ≠ "java/lang/invoke/VarHandle") ∧ Cond.instantiable q.1.cls q.2 ∈ tables_1 ∧ Cond.privateMethod q.1 ∈ tables_1 ∧ Cond.instanceMethod q.1 ∈ tables_1
theorem lw_p0 : lw_okq (⟨"RoastKeeper$SortedRows", "insert", "(III)V"⟩, 3) := ⟨⟨by decide +kernel, by decide +kernel⟩, List.mem_of_getElem? (i := 171) (by decide +kernel), List.mem_of_getElem? (i := 294) (by decide +kernel), List.mem_of_getElem? (i := 295) (by decide +kernel)⟩
theorem lw_p1 : lw_okq (⟨"RoastKeeper$History", "slot", "(I)LRoastKeeper$State;"⟩, 3) := ⟨⟨by decide +kernel, by decide +kernel⟩, List.mem_of_getElem? (i := 227) (by decide +kernel), List.mem_of_getElem? (i := 341) (by decide +kernel), List.mem_of_getElem? (i := 342) (by decide +kernel)⟩
theorem lw_p2 : lw_okq (⟨"RoastKeeper$ProfileReader", "takes", "(ILRoastKeeper$Text;II)Z"⟩, 2) := ⟨⟨by decide +kernel, by decide +kernel⟩, List.mem_of_getElem? (i := 262) (by decide +kernel), List.mem_of_getElem? (i := 442) (by decide +kernel), List.mem_of_getElem? (i := 443) (by decide +kernel)⟩
theorem lw_p3 : lw_okq (⟨"RoastKeeper$ProfileReader", "takesTick", "(I)Z"⟩, 2) := ⟨⟨by decide +kernel, by decide +kernel⟩, List.mem_of_getElem? (i := 262) (by decide +kernel), List.mem_of_getElem? (i := 452) (by decide +kernel), List.mem_of_getElem? (i := 453) (by decide +kernel)⟩
theorem lw_p4 : lw_okq (⟨"RoastKeeper$ProfileReader", "takesTemperature", "(I)Z"⟩, 2) := ⟨⟨by decide +kernel, by decide +kernel⟩, List.mem_of_getElem? (i := 262) (by decide +kernel), List.mem_of_getElem? (i := 457) (by decide +kernel), List.mem_of_getElem? (i := 458) (by decide +kernel)⟩
theorem lw_p5 : lw_okq (⟨"RoastKeeper$Roaster", "steer", "(LRoastKeeper$SortedRows;)V"⟩, 8) := ⟨⟨by decide +kernel, by decide +kernel⟩, List.mem_of_getElem? (i := 28) (by decide +kernel), List.mem_of_getElem? (i := 486) (by decide +kernel), List.mem_of_getElem? (i := 487) (by decide +kernel)⟩
theorem lw_p6 : lw_okq (⟨"RoastKeeper$Roaster", "moveDrum", "()V"⟩, 8) := ⟨⟨by decide +kernel, by decide +kernel⟩, List.mem_of_getElem? (i := 28) (by decide +kernel), List.mem_of_getElem? (i := 507) (by decide +kernel), List.mem_of_getElem? (i := 508) (by decide +kernel)⟩
theorem lw_p7 : lw_okq (⟨"RoastKeeper$Roaster", "moveProbe", "()V"⟩, 8) := ⟨⟨by decide +kernel, by decide +kernel⟩, List.mem_of_getElem? (i := 28) (by decide +kernel), List.mem_of_getElem? (i := 531) (by decide +kernel), List.mem_of_getElem? (i := 532) (by decide +kernel)⟩
theorem lw_p8 : lw_okq (⟨"RoastKeeper", "deviationWith", "(II)I"⟩, 10) := ⟨⟨by decide +kernel, by decide +kernel⟩, List.mem_of_getElem? (i := 14) (by decide +kernel), List.mem_of_getElem? (i := 577) (by decide +kernel), List.mem_of_getElem? (i := 578) (by decide +kernel)⟩
def lw_privs_1 : List (MethodName × Nat) := [(⟨"RoastKeeper$SortedRows", "insert", "(III)V"⟩, 3), (⟨"RoastKeeper$History", "slot", "(I)LRoastKeeper$State;"⟩, 3), (⟨"RoastKeeper$ProfileReader", "takes", "(ILRoastKeeper$Text;II)Z"⟩, 2), (⟨"RoastKeeper$ProfileReader", "takesTick", "(I)Z"⟩, 2), (⟨"RoastKeeper$ProfileReader", "takesTemperature", "(I)Z"⟩, 2), (⟨"RoastKeeper$Roaster", "steer", "(LRoastKeeper$SortedRows;)V"⟩, 8), (⟨"RoastKeeper$Roaster", "moveDrum", "()V"⟩, 8), (⟨"RoastKeeper$Roaster", "moveProbe", "()V"⟩, 8), (⟨"RoastKeeper", "deviationWith", "(II)I"⟩, 10)]
theorem lw_r1 : ∀ q ∈ lw_privs_1, lw_okq q := List.forall_mem_cons.mpr ⟨lw_p0, List.forall_mem_cons.mpr ⟨lw_p1, List.forall_mem_cons.mpr ⟨lw_p2, List.forall_mem_cons.mpr ⟨lw_p3, List.forall_mem_cons.mpr ⟨lw_p4, List.forall_mem_cons.mpr ⟨lw_p5, List.forall_mem_cons.mpr ⟨lw_p6, List.forall_mem_cons.mpr ⟨lw_p7, List.forall_mem_cons.mpr ⟨lw_p8, fun _ h => absurd h List.not_mem_nil⟩⟩⟩⟩⟩⟩⟩⟩⟩
def lw_privs : List (MethodName × Nat) := lw_privs_1
def lw_tbl : List Cond := k2_sels lw_privs ++ tables_1
theorem lw_privs_ok : ∀ q ∈ lw_privs, lw_okq q := lw_r1
def RX0 : String := "RoastKeeper$Beans"
def TX0 : u_T := fun k => match k with
  | 0 => ("RoastKeeper$Beans", "temperature", "I", false)
  | 1 => ("RoastKeeper$Beans", "mass", "I", false)
  | 2 => ("RoastKeeper$Beans", "age", "I", false)
  | 3 => ("RoastKeeper$Beans", "loss", "I", false)
  | 4 => ("RoastKeeper$Beans", "pops", "I", false)
  | 5 => ("RoastKeeper$Beans", "recentPops", "[I", true)
  | 6 => ("RoastKeeper$Beans", "crackAt", "I", false)
  | 7 => ("RoastKeeper$Beans", "endedAt", "I", false)
  | _ => ("RoastKeeper$Beans", "hottest", "I", false)
def tyX0 : Nat → FieldType := fun k => match k with
  | 0 => .int
  | 1 => .int
  | 2 => .int
  | 3 => .int
  | 4 => .int
  | 5 => .array .int
  | 6 => .int
  | 7 => .int
  | _ => .int
abbrev wsX00 : List Cond := u_ws RX0 TX0 9
theorem nmX0 : ∀ a, a < 9 → ∀ b, b < 9 → a ≠ b → (TX0 a).2.1 ≠ (TX0 b).2.1 := by decide +kernel
theorem tyX0_ok : ∀ k, k < 9 → parseFieldDescriptor (TX0 k).2.2.1 = some (tyX0 k) := by decide +kernel
abbrev cX0_init : ByteArray := prog_2_method_1_code
def yX0_init : MethodName := ⟨RX0, "<init>", "()V"⟩
abbrev cX0_copyFrom : ByteArray := prog_2_method_2_code
def yX0_copyFrom : MethodName := ⟨RX0, "copyFrom", "(LRoastKeeper$Beans;)V"⟩
abbrev cX0_start : ByteArray := prog_2_method_3_code
def yX0_start : MethodName := ⟨RX0, "start", "(II)V"⟩
abbrev cX0_roast : ByteArray := prog_2_method_4_code
def yX0_roast : MethodName := ⟨RX0, "roast", "(I)V"⟩
abbrev cX0_cool : ByteArray := prog_2_method_5_code
def yX0_cool : MethodName := ⟨RX0, "cool", "(II)V"⟩
abbrev cX0_pop : ByteArray := prog_2_method_6_code
def yX0_pop : MethodName := ⟨RX0, "pop", "(I)V"⟩
abbrev cX0_lookForCrack : ByteArray := prog_2_method_7_code
def yX0_lookForCrack : MethodName := ⟨RX0, "lookForCrack", "(I)V"⟩
abbrev cX0_window : ByteArray := prog_2_method_8_code
def yX0_window : MethodName := ⟨RX0, "window", "()I"⟩
abbrev cX0_number : ByteArray := prog_2_method_9_code
def yX0_number : MethodName := ⟨RX0, "number", "(I)I"⟩
def RX1 : String := "RoastKeeper$History"
def TX1 : u_T := fun k => match k with
  | 0 => ("RoastKeeper$History", "states", "[LRoastKeeper$State;", true)
  | 1 => ("RoastKeeper$History", "oldest", "I", false)
  | _ => ("RoastKeeper$History", "size", "I", false)
def tyX1 : Nat → FieldType := fun k => match k with
  | 0 => .array (.object "RoastKeeper$State")
  | 1 => .int
  | _ => .int
abbrev wsX10 : List Cond := u_ws RX1 TX1 3
theorem nmX1 : ∀ a, a < 3 → ∀ b, b < 3 → a ≠ b → (TX1 a).2.1 ≠ (TX1 b).2.1 := by decide +kernel
theorem tyX1_ok : ∀ k, k < 3 → parseFieldDescriptor (TX1 k).2.2.1 = some (tyX1 k) := by decide +kernel
abbrev cX1_init : ByteArray := prog_3_method_1_code
def yX1_init : MethodName := ⟨RX1, "<init>", "()V"⟩
abbrev cX1_remember : ByteArray := prog_3_method_2_code
def yX1_remember : MethodName := ⟨RX1, "remember", "(LRoastKeeper$State;)V"⟩
abbrev cX1_restore : ByteArray := prog_3_method_3_code
def yX1_restore : MethodName := ⟨RX1, "restore", "(LRoastKeeper$State;)V"⟩
abbrev cX1_slot : ByteArray := prog_3_method_4_code
def yX1_slot : MethodName := ⟨RX1, "slot", "(I)LRoastKeeper$State;"⟩
def RX2 : String := "RoastKeeper$Log"
def TX2 : u_T := fun k => match k with
  | 0 => ("RoastKeeper$Log", "entries", "[I", true)
  | 1 => ("RoastKeeper$Log", "size", "I", false)
  | _ => ("RoastKeeper$Log", "dropped", "I", false)
def tyX2 : Nat → FieldType := fun k => match k with
  | 0 => .array .int
  | 1 => .int
  | _ => .int
abbrev wsX20 : List Cond := u_ws RX2 TX2 3
theorem nmX2 : ∀ a, a < 3 → ∀ b, b < 3 → a ≠ b → (TX2 a).2.1 ≠ (TX2 b).2.1 := by decide +kernel
theorem tyX2_ok : ∀ k, k < 3 → parseFieldDescriptor (TX2 k).2.2.1 = some (tyX2 k) := by decide +kernel
abbrev cX2_init : ByteArray := prog_4_method_1_code
def yX2_init : MethodName := ⟨RX2, "<init>", "()V"⟩
abbrev cX2_copyFrom : ByteArray := prog_4_method_2_code
def yX2_copyFrom : MethodName := ⟨RX2, "copyFrom", "(LRoastKeeper$Log;)V"⟩
abbrev cX2_enter : ByteArray := prog_4_method_3_code
def yX2_enter : MethodName := ⟨RX2, "enter", "(LRoastKeeper$Beans;)V"⟩
abbrev cX2_property : ByteArray := prog_4_method_4_code
def yX2_property : MethodName := ⟨RX2, "property", "(II)I"⟩
def RX3 : String := "RoastKeeper$ProfileReader"
def TX3 : u_T := fun k => match k with
  | 0 => ("RoastKeeper$ProfileReader", "points", "LRoastKeeper$SortedRows;", true)
  | _ => ("RoastKeeper$ProfileReader", "tick", "I", false)
def tyX3 : Nat → FieldType := fun k => match k with
  | 0 => .object "RoastKeeper$SortedRows"
  | _ => .int
abbrev wsX30 : List Cond := u_ws RX3 TX3 2
theorem nmX3 : ∀ a, a < 2 → ∀ b, b < 2 → a ≠ b → (TX3 a).2.1 ≠ (TX3 b).2.1 := by decide +kernel
theorem tyX3_ok : ∀ k, k < 2 → parseFieldDescriptor (TX3 k).2.2.1 = some (tyX3 k) := by decide +kernel
abbrev cX3_init : ByteArray := prog_5_method_1_code
def yX3_init : MethodName := ⟨RX3, "<init>", "()V"⟩
abbrev cX3_errorPosition : ByteArray := prog_5_method_2_code
def yX3_errorPosition : MethodName := ⟨RX3, "errorPosition", "(LRoastKeeper$Text;)I"⟩
abbrev cX3_takes : ByteArray := prog_5_method_3_code
def yX3_takes : MethodName := ⟨RX3, "takes", "(ILRoastKeeper$Text;II)Z"⟩
abbrev cX3_takesTick : ByteArray := prog_5_method_4_code
def yX3_takesTick : MethodName := ⟨RX3, "takesTick", "(I)Z"⟩
abbrev cX3_takesTemperature : ByteArray := prog_5_method_5_code
def yX3_takesTemperature : MethodName := ⟨RX3, "takesTemperature", "(I)Z"⟩
def RX4 : String := "RoastKeeper$Roaster"
def TX4 : u_T := fun k => match k with
  | 0 => ("RoastKeeper$Roaster", "settings", "LRoastKeeper$Settings;", true)
  | 1 => ("RoastKeeper$Roaster", "beans", "LRoastKeeper$Beans;", true)
  | 2 => ("RoastKeeper$Roaster", "time", "I", false)
  | 3 => ("RoastKeeper$Roaster", "phase", "I", false)
  | 4 => ("RoastKeeper$Roaster", "drum", "I", false)
  | 5 => ("RoastKeeper$Roaster", "probe", "I", false)
  | 6 => ("RoastKeeper$Roaster", "power", "I", false)
  | _ => ("RoastKeeper$Roaster", "sum", "I", false)
def tyX4 : Nat → FieldType := fun k => match k with
  | 0 => .object "RoastKeeper$Settings"
  | 1 => .object "RoastKeeper$Beans"
  | 2 => .int
  | 3 => .int
  | 4 => .int
  | 5 => .int
  | 6 => .int
  | _ => .int
abbrev wsX40 : List Cond := u_ws RX4 TX4 8
theorem nmX4 : ∀ a, a < 8 → ∀ b, b < 8 → a ≠ b → (TX4 a).2.1 ≠ (TX4 b).2.1 := by decide +kernel
theorem tyX4_ok : ∀ k, k < 8 → parseFieldDescriptor (TX4 k).2.2.1 = some (tyX4 k) := by decide +kernel
abbrev cX4_init : ByteArray := prog_6_method_1_code
def yX4_init : MethodName := ⟨RX4, "<init>", "()V"⟩
abbrev cX4_copyFrom : ByteArray := prog_6_method_2_code
def yX4_copyFrom : MethodName := ⟨RX4, "copyFrom", "(LRoastKeeper$Roaster;)V"⟩
abbrev cX4_startBatch : ByteArray := prog_6_method_3_code
def yX4_startBatch : MethodName := ⟨RX4, "startBatch", "(I)V"⟩
abbrev cX4_tick : ByteArray := prog_6_method_4_code
def yX4_tick : MethodName := ⟨RX4, "tick", "(LRoastKeeper$SortedRows;LRoastKeeper$SortedRows;)V"⟩
abbrev cX4_steer : ByteArray := prog_6_method_5_code
def yX4_steer : MethodName := ⟨RX4, "steer", "(LRoastKeeper$SortedRows;)V"⟩
abbrev cX4_moveDrum : ByteArray := prog_6_method_6_code
def yX4_moveDrum : MethodName := ⟨RX4, "moveDrum", "()V"⟩
abbrev cX4_moveProbe : ByteArray := prog_6_method_7_code
def yX4_moveProbe : MethodName := ⟨RX4, "moveProbe", "()V"⟩
def RX5 : String := "RoastKeeper$Settings"
def TX5 : u_T := fun k => match k with
  | 0 => ("RoastKeeper$Settings", "ambient", "I", false)
  | 1 => ("RoastKeeper$Settings", "controllerOn", "I", false)
  | 2 => ("RoastKeeper$Settings", "p", "I", false)
  | 3 => ("RoastKeeper$Settings", "i", "I", false)
  | 4 => ("RoastKeeper$Settings", "bias", "I", false)
  | 5 => ("RoastKeeper$Settings", "lag", "I", false)
  | 6 => ("RoastKeeper$Settings", "fouling", "I", false)
  | 7 => ("RoastKeeper$Settings", "crackTemperature", "I", false)
  | 8 => ("RoastKeeper$Settings", "threshold", "I", false)
  | _ => ("RoastKeeper$Settings", "fan", "I", false)
def tyX5 : Nat → FieldType := fun k => match k with
  | 0 => .int
  | 1 => .int
  | 2 => .int
  | 3 => .int
  | 4 => .int
  | 5 => .int
  | 6 => .int
  | 7 => .int
  | 8 => .int
  | _ => .int
abbrev wsX50 : List Cond := u_ws RX5 TX5 10
theorem nmX5 : ∀ a, a < 10 → ∀ b, b < 10 → a ≠ b → (TX5 a).2.1 ≠ (TX5 b).2.1 := by decide +kernel
theorem tyX5_ok : ∀ k, k < 10 → parseFieldDescriptor (TX5 k).2.2.1 = some (tyX5 k) := by decide +kernel
abbrev cX5_init : ByteArray := prog_7_method_1_code
def yX5_init : MethodName := ⟨RX5, "<init>", "()V"⟩
abbrev cX5_copyFrom : ByteArray := prog_7_method_2_code
def yX5_copyFrom : MethodName := ⟨RX5, "copyFrom", "(LRoastKeeper$Settings;)V"⟩
def RX6 : String := "RoastKeeper$SortedRows"
def TX6 : u_T := fun k => match k with
  | 0 => ("RoastKeeper$SortedRows", "keys", "[I", true)
  | 1 => ("RoastKeeper$SortedRows", "values", "[I", true)
  | _ => ("RoastKeeper$SortedRows", "size", "I", false)
def tyX6 : Nat → FieldType := fun k => match k with
  | 0 => .array .int
  | 1 => .array .int
  | _ => .int
abbrev wsX60 : List Cond := u_ws RX6 TX6 3
theorem nmX6 : ∀ a, a < 3 → ∀ b, b < 3 → a ≠ b → (TX6 a).2.1 ≠ (TX6 b).2.1 := by decide +kernel
theorem tyX6_ok : ∀ k, k < 3 → parseFieldDescriptor (TX6 k).2.2.1 = some (tyX6 k) := by decide +kernel
abbrev cX6_init : ByteArray := prog_8_method_1_code
def yX6_init : MethodName := ⟨RX6, "<init>", "(I)V"⟩
abbrev cX6_copyFrom : ByteArray := prog_8_method_2_code
def yX6_copyFrom : MethodName := ⟨RX6, "copyFrom", "(LRoastKeeper$SortedRows;)V"⟩
abbrev cX6_indexBelow : ByteArray := prog_8_method_3_code
def yX6_indexBelow : MethodName := ⟨RX6, "indexBelow", "(I)I"⟩
abbrev cX6_has : ByteArray := prog_8_method_4_code
def yX6_has : MethodName := ⟨RX6, "has", "(I)Z"⟩
abbrev cX6_hasRoomFor : ByteArray := prog_8_method_5_code
def yX6_hasRoomFor : MethodName := ⟨RX6, "hasRoomFor", "(I)Z"⟩
abbrev cX6_set : ByteArray := prog_8_method_6_code
def yX6_set : MethodName := ⟨RX6, "set", "(II)V"⟩
abbrev cX6_insert : ByteArray := prog_8_method_7_code
def yX6_insert : MethodName := ⟨RX6, "insert", "(III)V"⟩
abbrev cX6_remove : ByteArray := prog_8_method_8_code
def yX6_remove : MethodName := ⟨RX6, "remove", "(I)V"⟩
abbrev cX6_valueBelow : ByteArray := prog_8_method_9_code
def yX6_valueBelow : MethodName := ⟨RX6, "valueBelow", "(I)I"⟩
abbrev cX6_valueOnLine : ByteArray := prog_8_method_10_code
def yX6_valueOnLine : MethodName := ⟨RX6, "valueOnLine", "(I)I"⟩
def RX7 : String := "RoastKeeper$State"
def TX7 : u_T := fun k => match k with
  | 0 => ("RoastKeeper$State", "roaster", "LRoastKeeper$Roaster;", true)
  | 1 => ("RoastKeeper$State", "profile", "LRoastKeeper$SortedRows;", true)
  | 2 => ("RoastKeeper$State", "losses", "LRoastKeeper$SortedRows;", true)
  | _ => ("RoastKeeper$State", "log", "LRoastKeeper$Log;", true)
def tyX7 : Nat → FieldType := fun k => match k with
  | 0 => .object "RoastKeeper$Roaster"
  | 1 => .object "RoastKeeper$SortedRows"
  | 2 => .object "RoastKeeper$SortedRows"
  | _ => .object "RoastKeeper$Log"
abbrev wsX70 : List Cond := u_ws RX7 TX7 4
theorem nmX7 : ∀ a, a < 4 → ∀ b, b < 4 → a ≠ b → (TX7 a).2.1 ≠ (TX7 b).2.1 := by decide +kernel
theorem tyX7_ok : ∀ k, k < 4 → parseFieldDescriptor (TX7 k).2.2.1 = some (tyX7 k) := by decide +kernel
abbrev cX7_init : ByteArray := prog_9_method_1_code
def yX7_init : MethodName := ⟨RX7, "<init>", "()V"⟩
abbrev cX7_copyFrom : ByteArray := prog_9_method_2_code
def yX7_copyFrom : MethodName := ⟨RX7, "copyFrom", "(LRoastKeeper$State;)V"⟩
def RX8 : String := "RoastKeeper$Text"
def TX8 : u_T := fun k => match k with
  | 0 => ("RoastKeeper$Text", "characters", "[I", true)
  | _ => ("RoastKeeper$Text", "length", "I", false)
def tyX8 : Nat → FieldType := fun k => match k with
  | 0 => .array .int
  | _ => .int
abbrev wsX80 : List Cond := u_ws RX8 TX8 2
theorem nmX8 : ∀ a, a < 2 → ∀ b, b < 2 → a ≠ b → (TX8 a).2.1 ≠ (TX8 b).2.1 := by decide +kernel
theorem tyX8_ok : ∀ k, k < 2 → parseFieldDescriptor (TX8 k).2.2.1 = some (tyX8 k) := by decide +kernel
abbrev cX8_init : ByteArray := prog_10_method_1_code
def yX8_init : MethodName := ⟨RX8, "<init>", "()V"⟩
abbrev cX8_add : ByteArray := prog_10_method_2_code
def yX8_add : MethodName := ⟨RX8, "add", "(I)V"⟩
abbrev cX8_character : ByteArray := prog_10_method_3_code
def yX8_character : MethodName := ⟨RX8, "character", "(I)I"⟩
abbrev cX8_isDigit : ByteArray := prog_10_method_4_code
def yX8_isDigit : MethodName := ⟨RX8, "isDigit", "(I)Z"⟩
abbrev cX8_afterSpaces : ByteArray := prog_10_method_5_code
def yX8_afterSpaces : MethodName := ⟨RX8, "afterSpaces", "(I)I"⟩
abbrev cX8_afterToken : ByteArray := prog_10_method_6_code
def yX8_afterToken : MethodName := ⟨RX8, "afterToken", "(I)I"⟩
abbrev cX8_numberIn : ByteArray := prog_10_method_7_code
def yX8_numberIn : MethodName := ⟨RX8, "numberIn", "(II)I"⟩
def RX9 : String := "RoastKeeper"
def TX9 : u_T := fun k => match k with
  | 0 => ("RoastKeeper", "now", "LRoastKeeper$State;", true)
  | 1 => ("RoastKeeper", "roaster", "LRoastKeeper$Roaster;", true)
  | 2 => ("RoastKeeper", "settings", "LRoastKeeper$Settings;", true)
  | 3 => ("RoastKeeper", "profile", "LRoastKeeper$SortedRows;", true)
  | 4 => ("RoastKeeper", "losses", "LRoastKeeper$SortedRows;", true)
  | 5 => ("RoastKeeper", "log", "LRoastKeeper$Log;", true)
  | 6 => ("RoastKeeper", "history", "LRoastKeeper$History;", true)
  | 7 => ("RoastKeeper", "text", "LRoastKeeper$Text;", true)
  | 8 => ("RoastKeeper", "reader", "LRoastKeeper$ProfileReader;", true)
  | _ => ("RoastKeeper", "trial", "LRoastKeeper$Roaster;", true)
def tyX9 : Nat → FieldType := fun k => match k with
  | 0 => .object "RoastKeeper$State"
  | 1 => .object "RoastKeeper$Roaster"
  | 2 => .object "RoastKeeper$Settings"
  | 3 => .object "RoastKeeper$SortedRows"
  | 4 => .object "RoastKeeper$SortedRows"
  | 5 => .object "RoastKeeper$Log"
  | 6 => .object "RoastKeeper$History"
  | 7 => .object "RoastKeeper$Text"
  | 8 => .object "RoastKeeper$ProfileReader"
  | _ => .object "RoastKeeper$Roaster"
abbrev wsX90 : List Cond := u_ws RX9 TX9 10
theorem nmX9 : ∀ a, a < 10 → ∀ b, b < 10 → a ≠ b → (TX9 a).2.1 ≠ (TX9 b).2.1 := by decide +kernel
theorem tyX9_ok : ∀ k, k < 10 → parseFieldDescriptor (TX9 k).2.2.1 = some (tyX9 k) := by decide +kernel
abbrev cX9_init : ByteArray := prog_1_method_1_code
def yX9_init : MethodName := ⟨RX9, "<init>", "()V"⟩
abbrev cX9_setAmbient : ByteArray := prog_1_method_2_code
def yX9_setAmbient : MethodName := ⟨RX9, "setAmbient", "(I)I"⟩
abbrev cX9_setPower : ByteArray := prog_1_method_3_code
def yX9_setPower : MethodName := ⟨RX9, "setPower", "(I)I"⟩
abbrev cX9_setController : ByteArray := prog_1_method_4_code
def yX9_setController : MethodName := ⟨RX9, "setController", "(IIII)I"⟩
abbrev cX9_setProbe : ByteArray := prog_1_method_5_code
def yX9_setProbe : MethodName := ⟨RX9, "setProbe", "(II)I"⟩
abbrev cX9_setCrack : ByteArray := prog_1_method_6_code
def yX9_setCrack : MethodName := ⟨RX9, "setCrack", "(II)I"⟩
abbrev cX9_setFan : ByteArray := prog_1_method_7_code
def yX9_setFan : MethodName := ⟨RX9, "setFan", "(I)I"⟩
abbrev cX9_setPoint : ByteArray := prog_1_method_8_code
def yX9_setPoint : MethodName := ⟨RX9, "setPoint", "(II)I"⟩
abbrev cX9_removePoint : ByteArray := prog_1_method_9_code
def yX9_removePoint : MethodName := ⟨RX9, "removePoint", "(I)I"⟩
abbrev cX9_setRow : ByteArray := prog_1_method_10_code
def yX9_setRow : MethodName := ⟨RX9, "setRow", "(II)I"⟩
abbrev cX9_append : ByteArray := prog_1_method_11_code
def yX9_append : MethodName := ⟨RX9, "append", "(I)I"⟩
abbrev cX9_load : ByteArray := prog_1_method_13_code
def yX9_load : MethodName := ⟨RX9, "load", "()I"⟩
abbrev cX9_charge : ByteArray := prog_1_method_14_code
def yX9_charge : MethodName := ⟨RX9, "charge", "(I)I"⟩
abbrev cX9_drop : ByteArray := prog_1_method_15_code
def yX9_drop : MethodName := ⟨RX9, "drop", "()I"⟩
abbrev cX9_takeAway : ByteArray := prog_1_method_16_code
def yX9_takeAway : MethodName := ⟨RX9, "takeAway", "()I"⟩
abbrev cX9_run : ByteArray := prog_1_method_17_code
def yX9_run : MethodName := ⟨RX9, "run", "(I)I"⟩
abbrev cX9_undo : ByteArray := prog_1_method_18_code
def yX9_undo : MethodName := ⟨RX9, "undo", "()I"⟩
abbrev cX9_count : ByteArray := prog_1_method_19_code
def yX9_count : MethodName := ⟨RX9, "count", "(I)I"⟩
abbrev cX9_batch : ByteArray := prog_1_method_20_code
def yX9_batch : MethodName := ⟨RX9, "batch", "(I)I"⟩
abbrev cX9_target : ByteArray := prog_1_method_21_code
def yX9_target : MethodName := ⟨RX9, "target", "(I)I"⟩
abbrev cX9_rate : ByteArray := prog_1_method_22_code
def yX9_rate : MethodName := ⟨RX9, "rate", "(I)I"⟩
abbrev cX9_logged : ByteArray := prog_1_method_23_code
def yX9_logged : MethodName := ⟨RX9, "logged", "(II)I"⟩
abbrev cX9_ticksTo : ByteArray := prog_1_method_25_code
def yX9_ticksTo : MethodName := ⟨RX9, "ticksTo", "(I)I"⟩
abbrev cX9_ticksToLoss : ByteArray := prog_1_method_26_code
def yX9_ticksToLoss : MethodName := ⟨RX9, "ticksToLoss", "(I)I"⟩
abbrev cX9_bestBias : ByteArray := prog_1_method_27_code
def yX9_bestBias : MethodName := ⟨RX9, "bestBias", "(I)I"⟩
abbrev cX9_deviationWith : ByteArray := prog_1_method_28_code
def yX9_deviationWith : MethodName := ⟨RX9, "deviationWith", "(II)I"⟩
abbrev cX9_inRange : ByteArray := prog_1_method_29_code
def yX9_inRange : MethodName := ⟨RX9, "inRange", "(III)Z"⟩
abbrev cX9_clamp : ByteArray := prog_1_method_30_code
def yX9_clamp : MethodName := ⟨RX9, "clamp", "(III)I"⟩
abbrev cX9_quotient : ByteArray := prog_1_method_31_code
def yX9_quotient : MethodName := ⟨RX9, "quotient", "(JJ)J"⟩
abbrev cX9_at : ByteArray := prog_1_method_32_code
def yX9_at : MethodName := ⟨RX9, "at", "([II)I"⟩
abbrev cX9_put : ByteArray := prog_1_method_33_code
def yX9_put : MethodName := ⟨RX9, "put", "([III)V"⟩
abbrev cX9_copyRow : ByteArray := prog_1_method_34_code
def yX9_copyRow : MethodName := ⟨RX9, "copyRow", "([I[I)V"⟩
def RX10 : String := "RoastKeeperModel"
def TX10 : u_T := fun k => match k with
  | _ => ("", "", "", false)
def tyX10 : Nat → FieldType := fun k => match k with
  | _ => .int
abbrev wsX100 : List Cond := u_ws RX10 TX10 0
theorem nmX10 : ∀ a, a < 0 → ∀ b, b < 0 → a ≠ b → (TX10 a).2.1 ≠ (TX10 b).2.1 := by decide +kernel
theorem tyX10_ok : ∀ k, k < 0 → parseFieldDescriptor (TX10 k).2.2.1 = some (tyX10 k) := by decide +kernel
def RJ9 : String := "java/lang/Math"
def TJ9 : u_T := fun k => match k with
  | _ => ("", "", "", false)
def tyJ9 : Nat → FieldType := fun k => match k with
  | _ => .int
abbrev wsJ90 : List Cond := u_ws RJ9 TJ9 0
theorem nmJ9 : ∀ a, a < 0 → ∀ b, b < 0 → a ≠ b → (TJ9 a).2.1 ≠ (TJ9 b).2.1 := by decide +kernel
theorem tyJ9_ok : ∀ k, k < 0 → parseFieldDescriptor (TJ9 k).2.2.1 = some (tyJ9 k) := by decide +kernel
abbrev cJ9_floorDiv_7cf53 : ByteArray := prog_13_method_47_code
def yJ9_floorDiv_7cf53 : MethodName := ⟨RJ9, "floorDiv", "(II)I"⟩
abbrev cJ9_floorDiv_f86c9 : ByteArray := prog_13_method_49_code
def yJ9_floorDiv_f86c9 : MethodName := ⟨RJ9, "floorDiv", "(JJ)J"⟩
abbrev cJ9_floorMod_7cf53 : ByteArray := prog_13_method_50_code
def yJ9_floorMod_7cf53 : MethodName := ⟨RJ9, "floorMod", "(II)I"⟩
abbrev cJ9_abs_0f7a4 : ByteArray := prog_13_method_59_code
def yJ9_abs_0f7a4 : MethodName := ⟨RJ9, "abs", "(I)I"⟩
abbrev cJ9_max_7cf53 : ByteArray := prog_13_method_65_code
def yJ9_max_7cf53 : MethodName := ⟨RJ9, "max", "(II)I"⟩
abbrev cJ9_min_7cf53 : ByteArray := prog_13_method_69_code
def yJ9_min_7cf53 : MethodName := ⟨RJ9, "min", "(II)I"⟩
def RJ10 : String := "java/lang/System"
def TJ10 : u_T := fun k => match k with
  | _ => ("", "", "", false)
def tyJ10 : Nat → FieldType := fun k => match k with
  | _ => .int
abbrev wsJ100 : List Cond := u_ws RJ10 TJ10 0
theorem nmJ10 : ∀ a, a < 0 → ∀ b, b < 0 → a ≠ b → (TJ10 a).2.1 ≠ (TJ10 b).2.1 := by decide +kernel
theorem tyJ10_ok : ∀ k, k < 0 → parseFieldDescriptor (TJ10 k).2.2.1 = some (tyJ10 k) := by decide +kernel
def RL : String := "RoastKeeperLaw"
abbrev cL_cell : ByteArray := method_2_code
def yL_cell : MethodName := ⟨RL, "cell", "([II)I"⟩
abbrev cL_low : ByteArray := method_3_code
def yL_low : MethodName := ⟨RL, "low", "(II)I"⟩
abbrev cL_digest : ByteArray := method_4_code
def yL_digest : MethodName := ⟨RL, "digest", "(LRoastKeeper;)J"⟩
abbrev cL_act : ByteArray := method_5_code
def yL_act : MethodName := ⟨RL, "act", "(LRoastKeeper;I)I"⟩
abbrev cL_isRight : ByteArray := method_6_code
def yL_isRight : MethodName := ⟨RL, "isRight", "(LRoastKeeper;)Z"⟩
abbrev cL_law : ByteArray := code
def yL_law : MethodName := ⟨RL, "law", "([I)Z"⟩
abbrev vwCl : List vw_C := [(RX0, TX0, 9), (RX1, TX1, 3), (RX2, TX2, 3), (RX3, TX3, 2), (RX4, TX4, 8), (RX5, TX5, 10), (RX6, TX6, 3), (RX7, TX7, 4), (RX8, TX8, 2), (RX9, TX9, 10)]
