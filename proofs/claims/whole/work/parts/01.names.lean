/-- a private method of a class that the tables say can be made, by its rows of tables_1 -/
def lw_okq (q : MethodName × Nat) : Prop := (q.1.cls ≠ "java/lang/invoke/MethodHandle" ∧ q.1.cls ≠ "java/lang/invoke/VarHandle") ∧ Cond.instantiable q.1.cls q.2 ∈ tables_1 ∧ Cond.privateMethod q.1 ∈ tables_1 ∧ Cond.instanceMethod q.1 ∈ tables_1
theorem lw_p0 : lw_okq (⟨"RoastKeeper$SortedRows", "insert", "(III)V"⟩, 3) := ⟨⟨by decide +kernel, by decide +kernel⟩, List.mem_of_getElem? (i := 172) (by decide +kernel), List.mem_of_getElem? (i := 295) (by decide +kernel), List.mem_of_getElem? (i := 296) (by decide +kernel)⟩
theorem lw_p1 : lw_okq (⟨"RoastKeeper$History", "slot", "(I)LRoastKeeper$State;"⟩, 3) := ⟨⟨by decide +kernel, by decide +kernel⟩, List.mem_of_getElem? (i := 228) (by decide +kernel), List.mem_of_getElem? (i := 342) (by decide +kernel), List.mem_of_getElem? (i := 343) (by decide +kernel)⟩
theorem lw_p2 : lw_okq (⟨"RoastKeeper$ProfileReader", "takes", "(ILRoastKeeper$Text;II)Z"⟩, 2) := ⟨⟨by decide +kernel, by decide +kernel⟩, List.mem_of_getElem? (i := 263) (by decide +kernel), List.mem_of_getElem? (i := 475) (by decide +kernel), List.mem_of_getElem? (i := 476) (by decide +kernel)⟩
theorem lw_p3 : lw_okq (⟨"RoastKeeper$ProfileReader", "takesTick", "(I)Z"⟩, 2) := ⟨⟨by decide +kernel, by decide +kernel⟩, List.mem_of_getElem? (i := 263) (by decide +kernel), List.mem_of_getElem? (i := 485) (by decide +kernel), List.mem_of_getElem? (i := 486) (by decide +kernel)⟩
theorem lw_p4 : lw_okq (⟨"RoastKeeper$ProfileReader", "takesTemperature", "(I)Z"⟩, 2) := ⟨⟨by decide +kernel, by decide +kernel⟩, List.mem_of_getElem? (i := 263) (by decide +kernel), List.mem_of_getElem? (i := 490) (by decide +kernel), List.mem_of_getElem? (i := 491) (by decide +kernel)⟩
theorem lw_p5 : lw_okq (⟨"RoastKeeper$Roaster", "steer", "(LRoastKeeper$SortedRows;)V"⟩, 8) := ⟨⟨by decide +kernel, by decide +kernel⟩, List.mem_of_getElem? (i := 29) (by decide +kernel), List.mem_of_getElem? (i := 534) (by decide +kernel), List.mem_of_getElem? (i := 535) (by decide +kernel)⟩
theorem lw_p6 : lw_okq (⟨"RoastKeeper$Roaster", "moveDrum", "()V"⟩, 8) := ⟨⟨by decide +kernel, by decide +kernel⟩, List.mem_of_getElem? (i := 29) (by decide +kernel), List.mem_of_getElem? (i := 555) (by decide +kernel), List.mem_of_getElem? (i := 556) (by decide +kernel)⟩
theorem lw_p7 : lw_okq (⟨"RoastKeeper$Roaster", "moveProbe", "()V"⟩, 8) := ⟨⟨by decide +kernel, by decide +kernel⟩, List.mem_of_getElem? (i := 29) (by decide +kernel), List.mem_of_getElem? (i := 576) (by decide +kernel), List.mem_of_getElem? (i := 577) (by decide +kernel)⟩
theorem lw_p8 : lw_okq (⟨"RoastKeeper", "deviationWith", "(II)I"⟩, 10) := ⟨⟨by decide +kernel, by decide +kernel⟩, List.mem_of_getElem? (i := 15) (by decide +kernel), List.mem_of_getElem? (i := 657) (by decide +kernel), List.mem_of_getElem? (i := 658) (by decide +kernel)⟩
theorem lw_p9 : lw_okq (⟨"RoastKeeperModel", "row", "(III)V"⟩, 10) := ⟨⟨by decide +kernel, by decide +kernel⟩, List.mem_of_getElem? (i := 664) (by decide +kernel), List.mem_of_getElem? (i := 670) (by decide +kernel), List.mem_of_getElem? (i := 671) (by decide +kernel)⟩
theorem lw_p10 : lw_okq (⟨"RoastKeeperModel", "put", "(II)I"⟩, 10) := ⟨⟨by decide +kernel, by decide +kernel⟩, List.mem_of_getElem? (i := 664) (by decide +kernel), List.mem_of_getElem? (i := 712) (by decide +kernel), List.mem_of_getElem? (i := 713) (by decide +kernel)⟩
theorem lw_p11 : lw_okq (⟨"RoastKeeperModel", "act", "()V"⟩, 10) := ⟨⟨by decide +kernel, by decide +kernel⟩, List.mem_of_getElem? (i := 664) (by decide +kernel), List.mem_of_getElem? (i := 716) (by decide +kernel), List.mem_of_getElem? (i := 717) (by decide +kernel)⟩
theorem lw_p12 : lw_okq (⟨"RoastKeeperModel", "place", "(III)I"⟩, 10) := ⟨⟨by decide +kernel, by decide +kernel⟩, List.mem_of_getElem? (i := 664) (by decide +kernel), List.mem_of_getElem? (i := 745) (by decide +kernel), List.mem_of_getElem? (i := 746) (by decide +kernel)⟩
theorem lw_p13 : lw_okq (⟨"RoastKeeperModel", "isAt", "(IIII)Z"⟩, 10) := ⟨⟨by decide +kernel, by decide +kernel⟩, List.mem_of_getElem? (i := 664) (by decide +kernel), List.mem_of_getElem? (i := 749) (by decide +kernel), List.mem_of_getElem? (i := 750) (by decide +kernel)⟩
theorem lw_p14 : lw_okq (⟨"RoastKeeperModel", "insert", "(IIII)V"⟩, 10) := ⟨⟨by decide +kernel, by decide +kernel⟩, List.mem_of_getElem? (i := 664) (by decide +kernel), List.mem_of_getElem? (i := 754) (by decide +kernel), List.mem_of_getElem? (i := 755) (by decide +kernel)⟩
theorem lw_p15 : lw_okq (⟨"RoastKeeperModel", "takeOut", "(III)V"⟩, 10) := ⟨⟨by decide +kernel, by decide +kernel⟩, List.mem_of_getElem? (i := 664) (by decide +kernel), List.mem_of_getElem? (i := 763) (by decide +kernel), List.mem_of_getElem? (i := 764) (by decide +kernel)⟩
def lw_privs_1 : List (MethodName × Nat) := [(⟨"RoastKeeper$SortedRows", "insert", "(III)V"⟩, 3), (⟨"RoastKeeper$History", "slot", "(I)LRoastKeeper$State;"⟩, 3), (⟨"RoastKeeper$ProfileReader", "takes", "(ILRoastKeeper$Text;II)Z"⟩, 2), (⟨"RoastKeeper$ProfileReader", "takesTick", "(I)Z"⟩, 2), (⟨"RoastKeeper$ProfileReader", "takesTemperature", "(I)Z"⟩, 2), (⟨"RoastKeeper$Roaster", "steer", "(LRoastKeeper$SortedRows;)V"⟩, 8), (⟨"RoastKeeper$Roaster", "moveDrum", "()V"⟩, 8), (⟨"RoastKeeper$Roaster", "moveProbe", "()V"⟩, 8), (⟨"RoastKeeper", "deviationWith", "(II)I"⟩, 10), (⟨"RoastKeeperModel", "row", "(III)V"⟩, 10), (⟨"RoastKeeperModel", "put", "(II)I"⟩, 10), (⟨"RoastKeeperModel", "act", "()V"⟩, 10), (⟨"RoastKeeperModel", "place", "(III)I"⟩, 10), (⟨"RoastKeeperModel", "isAt", "(IIII)Z"⟩, 10), (⟨"RoastKeeperModel", "insert", "(IIII)V"⟩, 10), (⟨"RoastKeeperModel", "takeOut", "(III)V"⟩, 10)]
theorem lw_r1 : ∀ q ∈ lw_privs_1, lw_okq q := List.forall_mem_cons.mpr ⟨lw_p0, List.forall_mem_cons.mpr ⟨lw_p1, List.forall_mem_cons.mpr ⟨lw_p2, List.forall_mem_cons.mpr ⟨lw_p3, List.forall_mem_cons.mpr ⟨lw_p4, List.forall_mem_cons.mpr ⟨lw_p5, List.forall_mem_cons.mpr ⟨lw_p6, List.forall_mem_cons.mpr ⟨lw_p7, List.forall_mem_cons.mpr ⟨lw_p8, List.forall_mem_cons.mpr ⟨lw_p9, List.forall_mem_cons.mpr ⟨lw_p10, List.forall_mem_cons.mpr ⟨lw_p11, List.forall_mem_cons.mpr ⟨lw_p12, List.forall_mem_cons.mpr ⟨lw_p13, List.forall_mem_cons.mpr ⟨lw_p14, List.forall_mem_cons.mpr ⟨lw_p15, fun _ h => absurd h List.not_mem_nil⟩⟩⟩⟩⟩⟩⟩⟩⟩⟩⟩⟩⟩⟩⟩⟩
theorem lw_p16 : lw_okq (⟨"RoastKeeperModel", "hold", "()V"⟩, 10) := ⟨⟨by decide +kernel, by decide +kernel⟩, List.mem_of_getElem? (i := 664) (by decide +kernel), List.mem_of_getElem? (i := 783) (by decide +kernel), List.mem_of_getElem? (i := 784) (by decide +kernel)⟩
theorem lw_p17 : lw_okq (⟨"RoastKeeperModel", "skip", "()V"⟩, 10) := ⟨⟨by decide +kernel, by decide +kernel⟩, List.mem_of_getElem? (i := 664) (by decide +kernel), List.mem_of_getElem? (i := 788) (by decide +kernel), List.mem_of_getElem? (i := 789) (by decide +kernel)⟩
theorem lw_p18 : lw_okq (⟨"RoastKeeperModel", "here", "()I"⟩, 10) := ⟨⟨by decide +kernel, by decide +kernel⟩, List.mem_of_getElem? (i := 664) (by decide +kernel), List.mem_of_getElem? (i := 792) (by decide +kernel), List.mem_of_getElem? (i := 793) (by decide +kernel)⟩
theorem lw_p19 : lw_okq (⟨"RoastKeeperModel", "readPoint", "(I)V"⟩, 10) := ⟨⟨by decide +kernel, by decide +kernel⟩, List.mem_of_getElem? (i := 664) (by decide +kernel), List.mem_of_getElem? (i := 796) (by decide +kernel), List.mem_of_getElem? (i := 797) (by decide +kernel)⟩
theorem lw_p20 : lw_okq (⟨"RoastKeeperModel", "takeNumber", "(II)I"⟩, 10) := ⟨⟨by decide +kernel, by decide +kernel⟩, List.mem_of_getElem? (i := 664) (by decide +kernel), List.mem_of_getElem? (i := 800) (by decide +kernel), List.mem_of_getElem? (i := 801) (by decide +kernel)⟩
theorem lw_p21 : lw_okq (⟨"RoastKeeperModel", "release", "()V"⟩, 10) := ⟨⟨by decide +kernel, by decide +kernel⟩, List.mem_of_getElem? (i := 664) (by decide +kernel), List.mem_of_getElem? (i := 804) (by decide +kernel), List.mem_of_getElem? (i := 805) (by decide +kernel)⟩
theorem lw_p22 : lw_okq (⟨"RoastKeeperModel", "isRoasting", "()Z"⟩, 10) := ⟨⟨by decide +kernel, by decide +kernel⟩, List.mem_of_getElem? (i := 664) (by decide +kernel), List.mem_of_getElem? (i := 817) (by decide +kernel), List.mem_of_getElem? (i := 818) (by decide +kernel)⟩
theorem lw_p23 : lw_okq (⟨"RoastKeeperModel", "tick", "()V"⟩, 10) := ⟨⟨by decide +kernel, by decide +kernel⟩, List.mem_of_getElem? (i := 664) (by decide +kernel), List.mem_of_getElem? (i := 832) (by decide +kernel), List.mem_of_getElem? (i := 833) (by decide +kernel)⟩
theorem lw_p24 : lw_okq (⟨"RoastKeeperModel", "control", "()V"⟩, 10) := ⟨⟨by decide +kernel, by decide +kernel⟩, List.mem_of_getElem? (i := 664) (by decide +kernel), List.mem_of_getElem? (i := 836) (by decide +kernel), List.mem_of_getElem? (i := 837) (by decide +kernel)⟩
theorem lw_p25 : lw_okq (⟨"RoastKeeperModel", "targetAt", "(I)I"⟩, 10) := ⟨⟨by decide +kernel, by decide +kernel⟩, List.mem_of_getElem? (i := 664) (by decide +kernel), List.mem_of_getElem? (i := 840) (by decide +kernel), List.mem_of_getElem? (i := 841) (by decide +kernel)⟩
theorem lw_p26 : lw_okq (⟨"RoastKeeperModel", "crack", "()V"⟩, 10) := ⟨⟨by decide +kernel, by decide +kernel⟩, List.mem_of_getElem? (i := 664) (by decide +kernel), List.mem_of_getElem? (i := 847) (by decide +kernel), List.mem_of_getElem? (i := 848) (by decide +kernel)⟩
theorem lw_p27 : lw_okq (⟨"RoastKeeperModel", "rateAt", "(I)I"⟩, 10) := ⟨⟨by decide +kernel, by decide +kernel⟩, List.mem_of_getElem? (i := 664) (by decide +kernel), List.mem_of_getElem? (i := 851) (by decide +kernel), List.mem_of_getElem? (i := 852) (by decide +kernel)⟩
theorem lw_p28 : lw_okq (⟨"RoastKeeperModel", "detect", "()V"⟩, 10) := ⟨⟨by decide +kernel, by decide +kernel⟩, List.mem_of_getElem? (i := 664) (by decide +kernel), List.mem_of_getElem? (i := 855) (by decide +kernel), List.mem_of_getElem? (i := 856) (by decide +kernel)⟩
theorem lw_p29 : lw_okq (⟨"RoastKeeperModel", "ticksUntil", "(II)I"⟩, 10) := ⟨⟨by decide +kernel, by decide +kernel⟩, List.mem_of_getElem? (i := 664) (by decide +kernel), List.mem_of_getElem? (i := 894) (by decide +kernel), List.mem_of_getElem? (i := 895) (by decide +kernel)⟩
theorem lw_p30 : lw_okq (⟨"RoastKeeperModel", "offWith", "(II)I"⟩, 10) := ⟨⟨by decide +kernel, by decide +kernel⟩, List.mem_of_getElem? (i := 664) (by decide +kernel), List.mem_of_getElem? (i := 907) (by decide +kernel), List.mem_of_getElem? (i := 908) (by decide +kernel)⟩
def lw_privs_2 : List (MethodName × Nat) := [(⟨"RoastKeeperModel", "hold", "()V"⟩, 10), (⟨"RoastKeeperModel", "skip", "()V"⟩, 10), (⟨"RoastKeeperModel", "here", "()I"⟩, 10), (⟨"RoastKeeperModel", "readPoint", "(I)V"⟩, 10), (⟨"RoastKeeperModel", "takeNumber", "(II)I"⟩, 10), (⟨"RoastKeeperModel", "release", "()V"⟩, 10), (⟨"RoastKeeperModel", "isRoasting", "()Z"⟩, 10), (⟨"RoastKeeperModel", "tick", "()V"⟩, 10), (⟨"RoastKeeperModel", "control", "()V"⟩, 10), (⟨"RoastKeeperModel", "targetAt", "(I)I"⟩, 10), (⟨"RoastKeeperModel", "crack", "()V"⟩, 10), (⟨"RoastKeeperModel", "rateAt", "(I)I"⟩, 10), (⟨"RoastKeeperModel", "detect", "()V"⟩, 10), (⟨"RoastKeeperModel", "ticksUntil", "(II)I"⟩, 10), (⟨"RoastKeeperModel", "offWith", "(II)I"⟩, 10)]
theorem lw_r2 : ∀ q ∈ lw_privs_2, lw_okq q := List.forall_mem_cons.mpr ⟨lw_p16, List.forall_mem_cons.mpr ⟨lw_p17, List.forall_mem_cons.mpr ⟨lw_p18, List.forall_mem_cons.mpr ⟨lw_p19, List.forall_mem_cons.mpr ⟨lw_p20, List.forall_mem_cons.mpr ⟨lw_p21, List.forall_mem_cons.mpr ⟨lw_p22, List.forall_mem_cons.mpr ⟨lw_p23, List.forall_mem_cons.mpr ⟨lw_p24, List.forall_mem_cons.mpr ⟨lw_p25, List.forall_mem_cons.mpr ⟨lw_p26, List.forall_mem_cons.mpr ⟨lw_p27, List.forall_mem_cons.mpr ⟨lw_p28, List.forall_mem_cons.mpr ⟨lw_p29, List.forall_mem_cons.mpr ⟨lw_p30, fun _ h => absurd h List.not_mem_nil⟩⟩⟩⟩⟩⟩⟩⟩⟩⟩⟩⟩⟩⟩⟩
def lw_privs : List (MethodName × Nat) := lw_privs_1 ++ (lw_privs_2)
def lw_tbl : List Cond := k2_sels lw_privs ++ tables_1
theorem lw_privs_ok : ∀ q ∈ lw_privs, lw_okq q := by
  show ∀ q ∈ lw_privs_1 ++ (lw_privs_2), lw_okq q
  exact List.forall_mem_append.mpr ⟨lw_r1, lw_r2⟩
def RX0 : String := "RoastKeeper$Beans"
def TX0 : u_T := fun k => match k with
  | 0 => ("RoastKeeper$Beans", "temperature", "I", false)
  | 1 => ("RoastKeeper$Beans", "mass", "I", false)
  | 2 => ("RoastKeeper$Beans", "age", "I", false)
  | 3 => ("RoastKeeper$Beans", "loss", "I", false)
  | 4 => ("RoastKeeper$Beans", "pops", "I", false)
  | 5 => ("RoastKeeper$Beans", "recentPops", "[I", true)
  | 6 => ("RoastKeeper$Beans", "crackAt", "I", false)
  | 7 => ("RoastKeeper$Beans", "endedAt", "I", false)
  | _ => ("RoastKeeper$Beans", "hottest", "I", false)
def tyX0 : Nat → FieldType := fun k => match k with
  | 0 => .int
  | 1 => .int
  | 2 => .int
  | 3 => .int
  | 4 => .int
  | 5 => .array .int
  | 6 => .int
  | 7 => .int
  | _ => .int
abbrev wsX00 : List Cond := u_ws RX0 TX0 9
theorem nmX0 : ∀ a, a < 9 → ∀ b, b < 9 → a ≠ b → (TX0 a).2.1 ≠ (TX0 b).2.1 := by decide +kernel
theorem tyX0_ok : ∀ k, k < 9 → parseFieldDescriptor (TX0 k).2.2.1 = some (tyX0 k) := by decide +kernel
abbrev cX0_init : ByteArray := prog_2_method_1_code
def yX0_init : MethodName := ⟨RX0, "<init>", "()V"⟩
abbrev cX0_copyFrom : ByteArray := prog_2_method_2_code
def yX0_copyFrom : MethodName := ⟨RX0, "copyFrom", "(LRoastKeeper$Beans;)V"⟩
abbrev cX0_start : ByteArray := prog_2_method_3_code
def yX0_start : MethodName := ⟨RX0, "start", "(II)V"⟩
abbrev cX0_roast : ByteArray := prog_2_method_4_code
def yX0_roast : MethodName := ⟨RX0, "roast", "(I)V"⟩
abbrev cX0_cool : ByteArray := prog_2_method_5_code
def yX0_cool : MethodName := ⟨RX0, "cool", "(II)V"⟩
abbrev cX0_pop : ByteArray := prog_2_method_6_code
def yX0_pop : MethodName := ⟨RX0, "pop", "(I)V"⟩
abbrev cX0_lookForCrack : ByteArray := prog_2_method_7_code
def yX0_lookForCrack : MethodName := ⟨RX0, "lookForCrack", "(I)V"⟩
abbrev cX0_window : ByteArray := prog_2_method_8_code
def yX0_window : MethodName := ⟨RX0, "window", "()I"⟩
abbrev cX0_number : ByteArray := prog_2_method_9_code
def yX0_number : MethodName := ⟨RX0, "number", "(I)I"⟩
def RX1 : String := "RoastKeeper$History"
def TX1 : u_T := fun k => match k with
  | 0 => ("RoastKeeper$History", "states", "[LRoastKeeper$State;", true)
  | 1 => ("RoastKeeper$History", "oldest", "I", false)
  | _ => ("RoastKeeper$History", "size", "I", false)
def tyX1 : Nat → FieldType := fun k => match k with
  | 0 => .array (.object "RoastKeeper$State")
  | 1 => .int
  | _ => .int
abbrev wsX10 : List Cond := u_ws RX1 TX1 3
theorem nmX1 : ∀ a, a < 3 → ∀ b, b < 3 → a ≠ b → (TX1 a).2.1 ≠ (TX1 b).2.1 := by decide +kernel
theorem tyX1_ok : ∀ k, k < 3 → parseFieldDescriptor (TX1 k).2.2.1 = some (tyX1 k) := by decide +kernel
abbrev cX1_init : ByteArray := prog_3_method_1_code
def yX1_init : MethodName := ⟨RX1, "<init>", "()V"⟩
abbrev cX1_remember : ByteArray := prog_3_method_2_code
def yX1_remember : MethodName := ⟨RX1, "remember", "(LRoastKeeper$State;)V"⟩
abbrev cX1_restore : ByteArray := prog_3_method_3_code
def yX1_restore : MethodName := ⟨RX1, "restore", "(LRoastKeeper$State;)V"⟩
abbrev cX1_slot : ByteArray := prog_3_method_4_code
def yX1_slot : MethodName := ⟨RX1, "slot", "(I)LRoastKeeper$State;"⟩
def RX2 : String := "RoastKeeper$Log"
def TX2 : u_T := fun k => match k with
  | 0 => ("RoastKeeper$Log", "entries", "[I", true)
  | 1 => ("RoastKeeper$Log", "size", "I", false)
  | _ => ("RoastKeeper$Log", "dropped", "I", false)
def tyX2 : Nat → FieldType := fun k => match k with
  | 0 => .array .int
  | 1 => .int
  | _ => .int
abbrev wsX20 : List Cond := u_ws RX2 TX2 3
theorem nmX2 : ∀ a, a < 3 → ∀ b, b < 3 → a ≠ b → (TX2 a).2.1 ≠ (TX2 b).2.1 := by decide +kernel
theorem tyX2_ok : ∀ k, k < 3 → parseFieldDescriptor (TX2 k).2.2.1 = some (tyX2 k) := by decide +kernel
abbrev cX2_init : ByteArray := prog_4_method_1_code
def yX2_init : MethodName := ⟨RX2, "<init>", "()V"⟩
abbrev cX2_copyFrom : ByteArray := prog_4_method_2_code
def yX2_copyFrom : MethodName := ⟨RX2, "copyFrom", "(LRoastKeeper$Log;)V"⟩
abbrev cX2_enter : ByteArray := prog_4_method_3_code
def yX2_enter : MethodName := ⟨RX2, "enter", "(LRoastKeeper$Beans;)V"⟩
abbrev cX2_property : ByteArray := prog_4_method_4_code
def yX2_property : MethodName := ⟨RX2, "property", "(II)I"⟩
abbrev cX2_slope : ByteArray := prog_4_method_5_code
def yX2_slope : MethodName := ⟨RX2, "slope", "(I)I"⟩
def RX3 : String := "RoastKeeper$ProfileReader"
def TX3 : u_T := fun k => match k with
  | 0 => ("RoastKeeper$ProfileReader", "points", "LRoastKeeper$SortedRows;", true)
  | _ => ("RoastKeeper$ProfileReader", "tick", "I", false)
def tyX3 : Nat → FieldType := fun k => match k with
  | 0 => .object "RoastKeeper$SortedRows"
  | _ => .int
abbrev wsX30 : List Cond := u_ws RX3 TX3 2
theorem nmX3 : ∀ a, a < 2 → ∀ b, b < 2 → a ≠ b → (TX3 a).2.1 ≠ (TX3 b).2.1 := by decide +kernel
theorem tyX3_ok : ∀ k, k < 2 → parseFieldDescriptor (TX3 k).2.2.1 = some (tyX3 k) := by decide +kernel
abbrev cX3_init : ByteArray := prog_5_method_1_code
def yX3_init : MethodName := ⟨RX3, "<init>", "()V"⟩
abbrev cX3_errorPosition : ByteArray := prog_5_method_2_code
def yX3_errorPosition : MethodName := ⟨RX3, "errorPosition", "(LRoastKeeper$Text;)I"⟩
abbrev cX3_takes : ByteArray := prog_5_method_3_code
def yX3_takes : MethodName := ⟨RX3, "takes", "(ILRoastKeeper$Text;II)Z"⟩
abbrev cX3_takesTick : ByteArray := prog_5_method_4_code
def yX3_takesTick : MethodName := ⟨RX3, "takesTick", "(I)Z"⟩
abbrev cX3_takesTemperature : ByteArray := prog_5_method_5_code
def yX3_takesTemperature : MethodName := ⟨RX3, "takesTemperature", "(I)Z"⟩
def RX4 : String := "RoastKeeper$Roaster"
def TX4 : u_T := fun k => match k with
  | 0 => ("RoastKeeper$Roaster", "settings", "LRoastKeeper$Settings;", true)
  | 1 => ("RoastKeeper$Roaster", "beans", "LRoastKeeper$Beans;", true)
  | 2 => ("RoastKeeper$Roaster", "time", "I", false)
  | 3 => ("RoastKeeper$Roaster", "phase", "I", false)
  | 4 => ("RoastKeeper$Roaster", "drum", "I", false)
  | 5 => ("RoastKeeper$Roaster", "probe", "I", false)
  | 6 => ("RoastKeeper$Roaster", "power", "I", false)
  | _ => ("RoastKeeper$Roaster", "sum", "I", false)
def tyX4 : Nat → FieldType := fun k => match k with
  | 0 => .object "RoastKeeper$Settings"
  | 1 => .object "RoastKeeper$Beans"
  | 2 => .int
  | 3 => .int
  | 4 => .int
  | 5 => .int
  | 6 => .int
  | _ => .int
abbrev wsX40 : List Cond := u_ws RX4 TX4 8
theorem nmX4 : ∀ a, a < 8 → ∀ b, b < 8 → a ≠ b → (TX4 a).2.1 ≠ (TX4 b).2.1 := by decide +kernel
theorem tyX4_ok : ∀ k, k < 8 → parseFieldDescriptor (TX4 k).2.2.1 = some (tyX4 k) := by decide +kernel
abbrev cX4_init : ByteArray := prog_6_method_1_code
def yX4_init : MethodName := ⟨RX4, "<init>", "()V"⟩
abbrev cX4_copyFrom : ByteArray := prog_6_method_2_code
def yX4_copyFrom : MethodName := ⟨RX4, "copyFrom", "(LRoastKeeper$Roaster;)V"⟩
abbrev cX4_startBatch : ByteArray := prog_6_method_3_code
def yX4_startBatch : MethodName := ⟨RX4, "startBatch", "(I)V"⟩
abbrev cX4_tick : ByteArray := prog_6_method_4_code
def yX4_tick : MethodName := ⟨RX4, "tick", "(LRoastKeeper$SortedRows;LRoastKeeper$SortedRows;)V"⟩
abbrev cX4_steer : ByteArray := prog_6_method_5_code
def yX4_steer : MethodName := ⟨RX4, "steer", "(LRoastKeeper$SortedRows;)V"⟩
abbrev cX4_moveDrum : ByteArray := prog_6_method_6_code
def yX4_moveDrum : MethodName := ⟨RX4, "moveDrum", "()V"⟩
abbrev cX4_moveProbe : ByteArray := prog_6_method_7_code
def yX4_moveProbe : MethodName := ⟨RX4, "moveProbe", "()V"⟩
def RX5 : String := "RoastKeeper$Settings"
def TX5 : u_T := fun k => match k with
  | 0 => ("RoastKeeper$Settings", "ambient", "I", false)
  | 1 => ("RoastKeeper$Settings", "controllerOn", "I", false)
  | 2 => ("RoastKeeper$Settings", "p", "I", false)
  | 3 => ("RoastKeeper$Settings", "i", "I", false)
  | 4 => ("RoastKeeper$Settings", "bias", "I", false)
  | 5 => ("RoastKeeper$Settings", "lag", "I", false)
  | 6 => ("RoastKeeper$Settings", "fouling", "I", false)
  | 7 => ("RoastKeeper$Settings", "crackTemperature", "I", false)
  | 8 => ("RoastKeeper$Settings", "threshold", "I", false)
  | _ => ("RoastKeeper$Settings", "fan", "I", false)
def tyX5 : Nat → FieldType := fun k => match k with
  | 0 => .int
  | 1 => .int
  | 2 => .int
  | 3 => .int
  | 4 => .int
  | 5 => .int
  | 6 => .int
  | 7 => .int
  | 8 => .int
  | _ => .int
abbrev wsX50 : List Cond := u_ws RX5 TX5 10
theorem nmX5 : ∀ a, a < 10 → ∀ b, b < 10 → a ≠ b → (TX5 a).2.1 ≠ (TX5 b).2.1 := by decide +kernel
theorem tyX5_ok : ∀ k, k < 10 → parseFieldDescriptor (TX5 k).2.2.1 = some (tyX5 k) := by decide +kernel
abbrev cX5_init : ByteArray := prog_7_method_1_code
def yX5_init : MethodName := ⟨RX5, "<init>", "()V"⟩
abbrev cX5_copyFrom : ByteArray := prog_7_method_2_code
def yX5_copyFrom : MethodName := ⟨RX5, "copyFrom", "(LRoastKeeper$Settings;)V"⟩
def RX6 : String := "RoastKeeper$SortedRows"
def TX6 : u_T := fun k => match k with
  | 0 => ("RoastKeeper$SortedRows", "keys", "[I", true)
  | 1 => ("RoastKeeper$SortedRows", "values", "[I", true)
  | _ => ("RoastKeeper$SortedRows", "size", "I", false)
def tyX6 : Nat → FieldType := fun k => match k with
  | 0 => .array .int
  | 1 => .array .int
  | _ => .int
abbrev wsX60 : List Cond := u_ws RX6 TX6 3
theorem nmX6 : ∀ a, a < 3 → ∀ b, b < 3 → a ≠ b → (TX6 a).2.1 ≠ (TX6 b).2.1 := by decide +kernel
theorem tyX6_ok : ∀ k, k < 3 → parseFieldDescriptor (TX6 k).2.2.1 = some (tyX6 k) := by decide +kernel
abbrev cX6_init : ByteArray := prog_8_method_1_code
def yX6_init : MethodName := ⟨RX6, "<init>", "(I)V"⟩
abbrev cX6_copyFrom : ByteArray := prog_8_method_2_code
def yX6_copyFrom : MethodName := ⟨RX6, "copyFrom", "(LRoastKeeper$SortedRows;)V"⟩
abbrev cX6_indexBelow : ByteArray := prog_8_method_3_code
def yX6_indexBelow : MethodName := ⟨RX6, "indexBelow", "(I)I"⟩
abbrev cX6_has : ByteArray := prog_8_method_4_code
def yX6_has : MethodName := ⟨RX6, "has", "(I)Z"⟩
abbrev cX6_hasRoomFor : ByteArray := prog_8_method_5_code
def yX6_hasRoomFor : MethodName := ⟨RX6, "hasRoomFor", "(I)Z"⟩
abbrev cX6_set : ByteArray := prog_8_method_6_code
def yX6_set : MethodName := ⟨RX6, "set", "(II)V"⟩
abbrev cX6_insert : ByteArray := prog_8_method_7_code
def yX6_insert : MethodName := ⟨RX6, "insert", "(III)V"⟩
abbrev cX6_remove : ByteArray := prog_8_method_8_code
def yX6_remove : MethodName := ⟨RX6, "remove", "(I)V"⟩
abbrev cX6_valueBelow : ByteArray := prog_8_method_9_code
def yX6_valueBelow : MethodName := ⟨RX6, "valueBelow", "(I)I"⟩
abbrev cX6_valueOnLine : ByteArray := prog_8_method_10_code
def yX6_valueOnLine : MethodName := ⟨RX6, "valueOnLine", "(I)I"⟩
def RX7 : String := "RoastKeeper$State"
def TX7 : u_T := fun k => match k with
  | 0 => ("RoastKeeper$State", "roaster", "LRoastKeeper$Roaster;", true)
  | 1 => ("RoastKeeper$State", "profile", "LRoastKeeper$SortedRows;", true)
  | 2 => ("RoastKeeper$State", "losses", "LRoastKeeper$SortedRows;", true)
  | _ => ("RoastKeeper$State", "log", "LRoastKeeper$Log;", true)
def tyX7 : Nat → FieldType := fun k => match k with
  | 0 => .object "RoastKeeper$Roaster"
  | 1 => .object "RoastKeeper$SortedRows"
  | 2 => .object "RoastKeeper$SortedRows"
  | _ => .object "RoastKeeper$Log"
abbrev wsX70 : List Cond := u_ws RX7 TX7 4
theorem nmX7 : ∀ a, a < 4 → ∀ b, b < 4 → a ≠ b → (TX7 a).2.1 ≠ (TX7 b).2.1 := by decide +kernel
theorem tyX7_ok : ∀ k, k < 4 → parseFieldDescriptor (TX7 k).2.2.1 = some (tyX7 k) := by decide +kernel
abbrev cX7_init : ByteArray := prog_9_method_1_code
def yX7_init : MethodName := ⟨RX7, "<init>", "()V"⟩
abbrev cX7_copyFrom : ByteArray := prog_9_method_2_code
def yX7_copyFrom : MethodName := ⟨RX7, "copyFrom", "(LRoastKeeper$State;)V"⟩
def RX8 : String := "RoastKeeper$Text"
def TX8 : u_T := fun k => match k with
  | 0 => ("RoastKeeper$Text", "characters", "[I", true)
  | _ => ("RoastKeeper$Text", "length", "I", false)
def tyX8 : Nat → FieldType := fun k => match k with
  | 0 => .array .int
  | _ => .int
abbrev wsX80 : List Cond := u_ws RX8 TX8 2
theorem nmX8 : ∀ a, a < 2 → ∀ b, b < 2 → a ≠ b → (TX8 a).2.1 ≠ (TX8 b).2.1 := by decide +kernel
theorem tyX8_ok : ∀ k, k < 2 → parseFieldDescriptor (TX8 k).2.2.1 = some (tyX8 k) := by decide +kernel
abbrev cX8_init : ByteArray := prog_10_method_1_code
def yX8_init : MethodName := ⟨RX8, "<init>", "()V"⟩
abbrev cX8_add : ByteArray := prog_10_method_2_code
def yX8_add : MethodName := ⟨RX8, "add", "(I)V"⟩
abbrev cX8_character : ByteArray := prog_10_method_3_code
def yX8_character : MethodName := ⟨RX8, "character", "(I)I"⟩
abbrev cX8_isDigit : ByteArray := prog_10_method_4_code
def yX8_isDigit : MethodName := ⟨RX8, "isDigit", "(I)Z"⟩
abbrev cX8_afterSpaces : ByteArray := prog_10_method_5_code
def yX8_afterSpaces : MethodName := ⟨RX8, "afterSpaces", "(I)I"⟩
abbrev cX8_afterToken : ByteArray := prog_10_method_6_code
def yX8_afterToken : MethodName := ⟨RX8, "afterToken", "(I)I"⟩
abbrev cX8_numberIn : ByteArray := prog_10_method_7_code
def yX8_numberIn : MethodName := ⟨RX8, "numberIn", "(II)I"⟩
def RX9 : String := "RoastKeeper"
def TX9 : u_T := fun k => match k with
  | 0 => ("RoastKeeper", "now", "LRoastKeeper$State;", true)
  | 1 => ("RoastKeeper", "roaster", "LRoastKeeper$Roaster;", true)
  | 2 => ("RoastKeeper", "settings", "LRoastKeeper$Settings;", true)
  | 3 => ("RoastKeeper", "profile", "LRoastKeeper$SortedRows;", true)
  | 4 => ("RoastKeeper", "losses", "LRoastKeeper$SortedRows;", true)
  | 5 => ("RoastKeeper", "log", "LRoastKeeper$Log;", true)
  | 6 => ("RoastKeeper", "history", "LRoastKeeper$History;", true)
  | 7 => ("RoastKeeper", "text", "LRoastKeeper$Text;", true)
  | 8 => ("RoastKeeper", "reader", "LRoastKeeper$ProfileReader;", true)
  | _ => ("RoastKeeper", "trial", "LRoastKeeper$Roaster;", true)
def tyX9 : Nat → FieldType := fun k => match k with
  | 0 => .object "RoastKeeper$State"
  | 1 => .object "RoastKeeper$Roaster"
  | 2 => .object "RoastKeeper$Settings"
  | 3 => .object "RoastKeeper$SortedRows"
  | 4 => .object "RoastKeeper$SortedRows"
  | 5 => .object "RoastKeeper$Log"
  | 6 => .object "RoastKeeper$History"
  | 7 => .object "RoastKeeper$Text"
  | 8 => .object "RoastKeeper$ProfileReader"
  | _ => .object "RoastKeeper$Roaster"
abbrev wsX90 : List Cond := u_ws RX9 TX9 10
theorem nmX9 : ∀ a, a < 10 → ∀ b, b < 10 → a ≠ b → (TX9 a).2.1 ≠ (TX9 b).2.1 := by decide +kernel
theorem tyX9_ok : ∀ k, k < 10 → parseFieldDescriptor (TX9 k).2.2.1 = some (tyX9 k) := by decide +kernel
abbrev cX9_init : ByteArray := prog_1_method_1_code
def yX9_init : MethodName := ⟨RX9, "<init>", "()V"⟩
abbrev cX9_setAmbient : ByteArray := prog_1_method_2_code
def yX9_setAmbient : MethodName := ⟨RX9, "setAmbient", "(I)I"⟩
abbrev cX9_setPower : ByteArray := prog_1_method_3_code
def yX9_setPower : MethodName := ⟨RX9, "setPower", "(I)I"⟩
abbrev cX9_setController : ByteArray := prog_1_method_4_code
def yX9_setController : MethodName := ⟨RX9, "setController", "(IIII)I"⟩
abbrev cX9_setProbe : ByteArray := prog_1_method_5_code
def yX9_setProbe : MethodName := ⟨RX9, "setProbe", "(II)I"⟩
abbrev cX9_setCrack : ByteArray := prog_1_method_6_code
def yX9_setCrack : MethodName := ⟨RX9, "setCrack", "(II)I"⟩
abbrev cX9_setFan : ByteArray := prog_1_method_7_code
def yX9_setFan : MethodName := ⟨RX9, "setFan", "(I)I"⟩
abbrev cX9_setPoint : ByteArray := prog_1_method_8_code
def yX9_setPoint : MethodName := ⟨RX9, "setPoint", "(II)I"⟩
abbrev cX9_removePoint : ByteArray := prog_1_method_9_code
def yX9_removePoint : MethodName := ⟨RX9, "removePoint", "(I)I"⟩
abbrev cX9_setRow : ByteArray := prog_1_method_10_code
def yX9_setRow : MethodName := ⟨RX9, "setRow", "(II)I"⟩
abbrev cX9_append : ByteArray := prog_1_method_11_code
def yX9_append : MethodName := ⟨RX9, "append", "(I)I"⟩
abbrev cX9_clearText : ByteArray := prog_1_method_12_code
def yX9_clearText : MethodName := ⟨RX9, "clearText", "()I"⟩
abbrev cX9_load : ByteArray := prog_1_method_13_code
def yX9_load : MethodName := ⟨RX9, "load", "()I"⟩
abbrev cX9_charge : ByteArray := prog_1_method_14_code
def yX9_charge : MethodName := ⟨RX9, "charge", "(I)I"⟩
abbrev cX9_drop : ByteArray := prog_1_method_15_code
def yX9_drop : MethodName := ⟨RX9, "drop", "()I"⟩
abbrev cX9_takeAway : ByteArray := prog_1_method_16_code
def yX9_takeAway : MethodName := ⟨RX9, "takeAway", "()I"⟩
abbrev cX9_run : ByteArray := prog_1_method_17_code
def yX9_run : MethodName := ⟨RX9, "run", "(I)I"⟩
abbrev cX9_undo : ByteArray := prog_1_method_18_code
def yX9_undo : MethodName := ⟨RX9, "undo", "()I"⟩
abbrev cX9_count : ByteArray := prog_1_method_19_code
def yX9_count : MethodName := ⟨RX9, "count", "(I)I"⟩
abbrev cX9_batch : ByteArray := prog_1_method_20_code
def yX9_batch : MethodName := ⟨RX9, "batch", "(I)I"⟩
abbrev cX9_target : ByteArray := prog_1_method_21_code
def yX9_target : MethodName := ⟨RX9, "target", "(I)I"⟩
abbrev cX9_rate : ByteArray := prog_1_method_22_code
def yX9_rate : MethodName := ⟨RX9, "rate", "(I)I"⟩
abbrev cX9_logged : ByteArray := prog_1_method_23_code
def yX9_logged : MethodName := ⟨RX9, "logged", "(II)I"⟩
abbrev cX9_drift : ByteArray := prog_1_method_24_code
def yX9_drift : MethodName := ⟨RX9, "drift", "(I)I"⟩
abbrev cX9_ticksTo : ByteArray := prog_1_method_25_code
def yX9_ticksTo : MethodName := ⟨RX9, "ticksTo", "(I)I"⟩
abbrev cX9_ticksToLoss : ByteArray := prog_1_method_26_code
def yX9_ticksToLoss : MethodName := ⟨RX9, "ticksToLoss", "(I)I"⟩
abbrev cX9_bestBias : ByteArray := prog_1_method_27_code
def yX9_bestBias : MethodName := ⟨RX9, "bestBias", "(I)I"⟩
abbrev cX9_deviationWith : ByteArray := prog_1_method_28_code
def yX9_deviationWith : MethodName := ⟨RX9, "deviationWith", "(II)I"⟩
abbrev cX9_inRange : ByteArray := prog_1_method_29_code
def yX9_inRange : MethodName := ⟨RX9, "inRange", "(III)Z"⟩
abbrev cX9_clamp : ByteArray := prog_1_method_30_code
def yX9_clamp : MethodName := ⟨RX9, "clamp", "(III)I"⟩
abbrev cX9_quotient : ByteArray := prog_1_method_31_code
def yX9_quotient : MethodName := ⟨RX9, "quotient", "(JJ)J"⟩
abbrev cX9_at : ByteArray := prog_1_method_32_code
def yX9_at : MethodName := ⟨RX9, "at", "([II)I"⟩
abbrev cX9_put : ByteArray := prog_1_method_33_code
def yX9_put : MethodName := ⟨RX9, "put", "([III)V"⟩
abbrev cX9_copyRow : ByteArray := prog_1_method_34_code
def yX9_copyRow : MethodName := ⟨RX9, "copyRow", "([I[I)V"⟩
def RX10 : String := "RoastKeeperModel"
def TX10 : u_T := fun k => match k with
  | 0 => ("RoastKeeperModel", "thrown", "I", false)
  | 1 => ("RoastKeeperModel", "s", "[I", true)
  | 2 => ("RoastKeeperModel", "aside", "[I", true)
  | 3 => ("RoastKeeperModel", "saved", "[I", true)
  | 4 => ("RoastKeeperModel", "savedMany", "I", false)
  | 5 => ("RoastKeeperModel", "text", "[I", true)
  | 6 => ("RoastKeeperModel", "length", "I", false)
  | 7 => ("RoastKeeperModel", "next", "I", false)
  | 8 => ("RoastKeeperModel", "wrong", "I", false)
  | _ => ("RoastKeeperModel", "points", "[I", true)
def tyX10 : Nat → FieldType := fun k => match k with
  | 0 => .int
  | 1 => .array .int
  | 2 => .array .int
  | 3 => .array .int
  | 4 => .int
  | 5 => .array .int
  | 6 => .int
  | 7 => .int
  | 8 => .int
  | _ => .array .int
abbrev wsX100 : List Cond := u_ws RX10 TX10 10
theorem nmX10 : ∀ a, a < 10 → ∀ b, b < 10 → a ≠ b → (TX10 a).2.1 ≠ (TX10 b).2.1 := by decide +kernel
theorem tyX10_ok : ∀ k, k < 10 → parseFieldDescriptor (TX10 k).2.2.1 = some (tyX10 k) := by decide +kernel
abbrev cX10_init : ByteArray := prog_12_method_1_code
def yX10_init : MethodName := ⟨RX10, "<init>", "()V"⟩
abbrev cX10_in : ByteArray := prog_12_method_3_code
def yX10_in : MethodName := ⟨RX10, "in", "(III)Z"⟩
abbrev cX10_down : ByteArray := prog_12_method_4_code
def yX10_down : MethodName := ⟨RX10, "down", "(II)I"⟩
abbrev cX10_clamp : ByteArray := prog_12_method_5_code
def yX10_clamp : MethodName := ⟨RX10, "clamp", "(III)I"⟩
abbrev cX10_row : ByteArray := prog_12_method_6_code
def yX10_row : MethodName := ⟨RX10, "row", "(III)V"⟩
abbrev cX10_hold : ByteArray := prog_12_method_7_code
def yX10_hold : MethodName := ⟨RX10, "hold", "()V"⟩
abbrev cX10_release : ByteArray := prog_12_method_8_code
def yX10_release : MethodName := ⟨RX10, "release", "()V"⟩
abbrev cX10_act : ByteArray := prog_12_method_9_code
def yX10_act : MethodName := ⟨RX10, "act", "()V"⟩
abbrev cX10_isRoasting : ByteArray := prog_12_method_10_code
def yX10_isRoasting : MethodName := ⟨RX10, "isRoasting", "()Z"⟩
abbrev cX10_put : ByteArray := prog_12_method_11_code
def yX10_put : MethodName := ⟨RX10, "put", "(II)I"⟩
abbrev cX10_setAmbient : ByteArray := prog_12_method_12_code
def yX10_setAmbient : MethodName := ⟨RX10, "setAmbient", "(I)I"⟩
abbrev cX10_setPower : ByteArray := prog_12_method_13_code
def yX10_setPower : MethodName := ⟨RX10, "setPower", "(I)I"⟩
abbrev cX10_setController : ByteArray := prog_12_method_14_code
def yX10_setController : MethodName := ⟨RX10, "setController", "(IIII)I"⟩
abbrev cX10_setProbe : ByteArray := prog_12_method_15_code
def yX10_setProbe : MethodName := ⟨RX10, "setProbe", "(II)I"⟩
abbrev cX10_setCrack : ByteArray := prog_12_method_16_code
def yX10_setCrack : MethodName := ⟨RX10, "setCrack", "(II)I"⟩
abbrev cX10_setFan : ByteArray := prog_12_method_17_code
def yX10_setFan : MethodName := ⟨RX10, "setFan", "(I)I"⟩
abbrev cX10_place : ByteArray := prog_12_method_18_code
def yX10_place : MethodName := ⟨RX10, "place", "(III)I"⟩
abbrev cX10_isAt : ByteArray := prog_12_method_19_code
def yX10_isAt : MethodName := ⟨RX10, "isAt", "(IIII)Z"⟩
abbrev cX10_insert : ByteArray := prog_12_method_20_code
def yX10_insert : MethodName := ⟨RX10, "insert", "(IIII)V"⟩
abbrev cX10_takeOut : ByteArray := prog_12_method_21_code
def yX10_takeOut : MethodName := ⟨RX10, "takeOut", "(III)V"⟩
abbrev cX10_setPoint : ByteArray := prog_12_method_22_code
def yX10_setPoint : MethodName := ⟨RX10, "setPoint", "(II)I"⟩
abbrev cX10_removePoint : ByteArray := prog_12_method_23_code
def yX10_removePoint : MethodName := ⟨RX10, "removePoint", "(I)I"⟩
abbrev cX10_setRow : ByteArray := prog_12_method_24_code
def yX10_setRow : MethodName := ⟨RX10, "setRow", "(II)I"⟩
abbrev cX10_append : ByteArray := prog_12_method_25_code
def yX10_append : MethodName := ⟨RX10, "append", "(I)I"⟩
abbrev cX10_clearText : ByteArray := prog_12_method_26_code
def yX10_clearText : MethodName := ⟨RX10, "clearText", "()I"⟩
abbrev cX10_here : ByteArray := prog_12_method_27_code
def yX10_here : MethodName := ⟨RX10, "here", "()I"⟩
abbrev cX10_skip : ByteArray := prog_12_method_28_code
def yX10_skip : MethodName := ⟨RX10, "skip", "()V"⟩
abbrev cX10_takeNumber : ByteArray := prog_12_method_29_code
def yX10_takeNumber : MethodName := ⟨RX10, "takeNumber", "(II)I"⟩
abbrev cX10_readPoint : ByteArray := prog_12_method_30_code
def yX10_readPoint : MethodName := ⟨RX10, "readPoint", "(I)V"⟩
abbrev cX10_load : ByteArray := prog_12_method_31_code
def yX10_load : MethodName := ⟨RX10, "load", "()I"⟩
abbrev cX10_charge : ByteArray := prog_12_method_32_code
def yX10_charge : MethodName := ⟨RX10, "charge", "(I)I"⟩
abbrev cX10_drop : ByteArray := prog_12_method_33_code
def yX10_drop : MethodName := ⟨RX10, "drop", "()I"⟩
abbrev cX10_takeAway : ByteArray := prog_12_method_34_code
def yX10_takeAway : MethodName := ⟨RX10, "takeAway", "()I"⟩
abbrev cX10_targetAt : ByteArray := prog_12_method_35_code
def yX10_targetAt : MethodName := ⟨RX10, "targetAt", "(I)I"⟩
abbrev cX10_rateAt : ByteArray := prog_12_method_36_code
def yX10_rateAt : MethodName := ⟨RX10, "rateAt", "(I)I"⟩
abbrev cX10_control : ByteArray := prog_12_method_37_code
def yX10_control : MethodName := ⟨RX10, "control", "()V"⟩
abbrev cX10_crack : ByteArray := prog_12_method_38_code
def yX10_crack : MethodName := ⟨RX10, "crack", "()V"⟩
abbrev cX10_detect : ByteArray := prog_12_method_39_code
def yX10_detect : MethodName := ⟨RX10, "detect", "()V"⟩
abbrev cX10_tick : ByteArray := prog_12_method_40_code
def yX10_tick : MethodName := ⟨RX10, "tick", "()V"⟩
abbrev cX10_run : ByteArray := prog_12_method_41_code
def yX10_run : MethodName := ⟨RX10, "run", "(I)I"⟩
abbrev cX10_undo : ByteArray := prog_12_method_42_code
def yX10_undo : MethodName := ⟨RX10, "undo", "()I"⟩
abbrev cX10_count : ByteArray := prog_12_method_43_code
def yX10_count : MethodName := ⟨RX10, "count", "(I)I"⟩
abbrev cX10_batch : ByteArray := prog_12_method_44_code
def yX10_batch : MethodName := ⟨RX10, "batch", "(I)I"⟩
abbrev cX10_target : ByteArray := prog_12_method_45_code
def yX10_target : MethodName := ⟨RX10, "target", "(I)I"⟩
abbrev cX10_rate : ByteArray := prog_12_method_46_code
def yX10_rate : MethodName := ⟨RX10, "rate", "(I)I"⟩
abbrev cX10_logged : ByteArray := prog_12_method_47_code
def yX10_logged : MethodName := ⟨RX10, "logged", "(II)I"⟩
abbrev cX10_drift : ByteArray := prog_12_method_48_code
def yX10_drift : MethodName := ⟨RX10, "drift", "(I)I"⟩
abbrev cX10_ticksUntil : ByteArray := prog_12_method_49_code
def yX10_ticksUntil : MethodName := ⟨RX10, "ticksUntil", "(II)I"⟩
abbrev cX10_ticksTo : ByteArray := prog_12_method_50_code
def yX10_ticksTo : MethodName := ⟨RX10, "ticksTo", "(I)I"⟩
abbrev cX10_ticksToLoss : ByteArray := prog_12_method_51_code
def yX10_ticksToLoss : MethodName := ⟨RX10, "ticksToLoss", "(I)I"⟩
abbrev cX10_offWith : ByteArray := prog_12_method_52_code
def yX10_offWith : MethodName := ⟨RX10, "offWith", "(II)I"⟩
abbrev cX10_bestBias : ByteArray := prog_12_method_53_code
def yX10_bestBias : MethodName := ⟨RX10, "bestBias", "(I)I"⟩
def RJ9 : String := "java/lang/Math"
def TJ9 : u_T := fun k => match k with
  | _ => ("", "", "", false)
def tyJ9 : Nat → FieldType := fun k => match k with
  | _ => .int
abbrev wsJ90 : List Cond := u_ws RJ9 TJ9 0
theorem nmJ9 : ∀ a, a < 0 → ∀ b, b < 0 → a ≠ b → (TJ9 a).2.1 ≠ (TJ9 b).2.1 := by decide +kernel
theorem tyJ9_ok : ∀ k, k < 0 → parseFieldDescriptor (TJ9 k).2.2.1 = some (tyJ9 k) := by decide +kernel
abbrev cJ9_floorDiv_7cf53 : ByteArray := prog_13_method_47_code
def yJ9_floorDiv_7cf53 : MethodName := ⟨RJ9, "floorDiv", "(II)I"⟩
abbrev cJ9_floorDiv_f86c9 : ByteArray := prog_13_method_49_code
def yJ9_floorDiv_f86c9 : MethodName := ⟨RJ9, "floorDiv", "(JJ)J"⟩
abbrev cJ9_floorMod_7cf53 : ByteArray := prog_13_method_50_code
def yJ9_floorMod_7cf53 : MethodName := ⟨RJ9, "floorMod", "(II)I"⟩
abbrev cJ9_abs_0f7a4 : ByteArray := prog_13_method_59_code
def yJ9_abs_0f7a4 : MethodName := ⟨RJ9, "abs", "(I)I"⟩
abbrev cJ9_max_7cf53 : ByteArray := prog_13_method_65_code
def yJ9_max_7cf53 : MethodName := ⟨RJ9, "max", "(II)I"⟩
abbrev cJ9_min_7cf53 : ByteArray := prog_13_method_69_code
def yJ9_min_7cf53 : MethodName := ⟨RJ9, "min", "(II)I"⟩
def RJ10 : String := "java/lang/System"
def TJ10 : u_T := fun k => match k with
  | _ => ("", "", "", false)
def tyJ10 : Nat → FieldType := fun k => match k with
  | _ => .int
abbrev wsJ100 : List Cond := u_ws RJ10 TJ10 0
theorem nmJ10 : ∀ a, a < 0 → ∀ b, b < 0 → a ≠ b → (TJ10 a).2.1 ≠ (TJ10 b).2.1 := by decide +kernel
theorem tyJ10_ok : ∀ k, k < 0 → parseFieldDescriptor (TJ10 k).2.2.1 = some (tyJ10 k) := by decide +kernel
def RL : String := "RoastKeeperLaw"
abbrev cL_law : ByteArray := code
def yL_law : MethodName := ⟨RL, "law", "([I)Z"⟩
abbrev vwCl : List vw_C := [(RX0, TX0, 9), (RX1, TX1, 3), (RX2, TX2, 3), (RX3, TX3, 2), (RX4, TX4, 8), (RX5, TX5, 10), (RX6, TX6, 3), (RX7, TX7, 4), (RX8, TX8, 2), (RX9, TX9, 10), (RX10, TX10, 10)]
