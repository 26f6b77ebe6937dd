section
/-- a private method of a class that the tables say can be made, by its rows of tables_1 -/
def lw_okq (q : MethodName × Nat) : Prop := (q.1.cls ≠ "java/lang/invoke/MethodHandle" ∧ q.1.cls ≠ "java/lang/invoke/VarHandle") ∧ Cond.instantiable q.1.cls q.2 ∈ tables_1 ∧ Cond.privateMethod q.1 ∈ tables_1 ∧ Cond.instanceMethod q.1 ∈ tables_1
theorem lw_p0 : lw_okq (⟨"RoastKeeper$SortedRows", "insert", "(III)V"⟩, 3) := ⟨⟨by decide +kernel, by decide +kernel⟩, List.mem_of_getElem? (i := 172) (by decide +kernel), List.mem_of_getElem? (i := 295) (by decide +kernel), List.mem_of_getElem? (i := 296) (by decide +kernel)⟩
theorem lw_p1 : lw_okq (⟨"RoastKeeper$History", "slot", "(I)LRoastKeeper$State;"⟩, 3) := ⟨⟨by decide +kernel, by decide +kernel⟩, List.mem_of_getElem? (i := 228) (by decide +kernel), List.mem_of_getElem? (i := 342) (by decide +kernel), List.mem_of_getElem? (i := 343) (by decide +kernel)⟩
theorem lw_p2 : lw_okq (⟨"RoastKeeper$ProfileReader", "takes", "(ILRoastKeeper$Text;II)Z"⟩, 2) := ⟨⟨by decide +kernel, by decide +kernel⟩, List.mem_of_getElem? (i := 263) (by decide +kernel), List.mem_of_getElem? (i := 475) (by decide +kernel), List.mem_of_getElem? (i := 476) (by decide +kernel)⟩
theorem lw_p3 : lw_okq (⟨"RoastKeeper$ProfileReader", "takesTick", "(I)Z"⟩, 2) := ⟨⟨by decide +kernel, by decide +kernel⟩, List.mem_of_getElem? (i := 263) (by decide +kernel), List.mem_of_getElem? (i := 485) (by decide +kernel), List.mem_of_getElem? (i := 486) (by decide +kernel)⟩
theorem lw_p4 : lw_okq (⟨"RoastKeeper$ProfileReader", "takesTemperature", "(I)Z"⟩, 2) := ⟨⟨by decide +kernel, by decide +kernel⟩, List.mem_of_getElem? (i := 263) (by decide +kernel), List.mem_of_getElem? (i := 490) (by decide +kernel), List.mem_of_getElem? (i := 491) (by decide +kernel)⟩
theorem lw_p5 : lw_okq (⟨"RoastKeeper$Roaster", "steer", "(LRoastKeeper$SortedRows;)V"⟩, 8) := ⟨⟨by decide +kernel, by decide +kernel⟩, List.mem_of_getElem? (i := 29) (by decide +kernel), List.mem_of_getElem? (i := 534) (by decide +kernel), List.mem_of_getElem? (i := 535) (by decide +kernel)⟩
theorem lw_p6 : lw_okq (⟨"RoastKeeper$Roaster", "moveDrum", "()V"⟩, 8) := ⟨⟨by decide +kernel, by decide +kernel⟩, List.mem_of_getElem? (i := 29) (by decide +kernel), List.mem_of_getElem? (i := 555) (by decide +kernel), List.mem_of_getElem? (i := 556) (by decide +kernel)⟩
theorem lw_p7 : lw_okq (⟨"RoastKeeper$Roaster", "moveProbe", "()V"⟩, 8) := ⟨⟨by decide +kernel, by decide +kernel⟩, List.mem_of_getElem? (i := 29) (by decide +kernel), List.mem_of_getElem? (i := 576) (by decide +kernel), List.mem_of_getElem? (i := 577) (by decide +kernel)⟩
theorem lw_p8 : lw_okq (⟨"RoastKeeper", "deviationWith", "(II)I"⟩, 10) := ⟨⟨by decide +kernel, by decide +kernel⟩, List.mem_of_getElem? (i := 15) (by decide +kernel), List.mem_of_getElem? (i := 657) (by decide +kernel), List.mem_of_getElem? (i := 658) (by decide +kernel)⟩
theorem lw_p9 : lw_okq (⟨"RoastKeeperModel", "row", "(III)V"⟩, 10) := ⟨⟨by decide +kernel, by decide +kernel⟩, List.mem_of_getElem? (i := 664) (by decide +kernel), List.mem_of_getElem? (i := 670) (by decide +kernel), List.mem_of_getElem? (i := 671) (by decide +kernel)⟩
theorem lw_p10 : lw_okq (⟨"RoastKeeperModel", "put", "(II)I"⟩, 10) := ⟨⟨by decide +kernel, by decide +kernel⟩, List.mem_of_getElem? (i := 664) (by decide +kernel), List.mem_of_getElem? (i := 712) (by decide +kernel), List.mem_of_getElem? (i := 713) (by decide +kernel)⟩
theorem lw_p11 : lw_okq (⟨"RoastKeeperModel", "act", "()V"⟩, 10) := ⟨⟨by decide +kernel, by decide +kernel⟩, List.mem_of_getElem? (i := 664) (by decide +kernel), List.mem_of_getElem? (i := 716) (by decide +kernel), List.mem_of_getElem? (i := 717) (by decide +kernel)⟩
theorem lw_p12 : lw_okq (⟨"RoastKeeperModel", "place", "(III)I"⟩, 10) := ⟨⟨by decide +kernel, by decide +kernel⟩, List.mem_of_getElem? (i := 664) (by decide +kernel), List.mem_of_getElem? (i := 745) (by decide +kernel), List.mem_of_getElem? (i := 746) (by decide +kernel)⟩
theorem lw_p13 : lw_okq (⟨"RoastKeeperModel", "isAt", "(IIII)Z"⟩, 10) := ⟨⟨by decide +kernel, by decide +kernel⟩, List.mem_of_getElem? (i := 664) (by decide +kernel), List.mem_of_getElem? (i := 749) (by decide +kernel), List.mem_of_getElem? (i := 750) (by decide +kernel)⟩
theorem lw_p14 : lw_okq (⟨"RoastKeeperModel", "insert", "(IIII)V"⟩, 10) := ⟨⟨by decide +kernel, by decide +kernel⟩, List.mem_of_getElem? (i := 664) (by decide +kernel), List.mem_of_getElem? (i := 754) (by decide +kernel), List.mem_of_getElem? (i := 755) (by decide +kernel)⟩
theorem lw_p15 : lw_okq (⟨"RoastKeeperModel", "takeOut", "(III)V"⟩, 10) := ⟨⟨by decide +kernel, by decide +kernel⟩, List.mem_of_getElem? (i := 664) (by decide +kernel), List.mem_of_getElem? (i := 763) (by decide +kernel), List.mem_of_getElem? (i := 764) (by decide +kernel)⟩
def lw_privs_1 : List (MethodName × Nat) := [(⟨"RoastKeeper$SortedRows", "insert", "(III)V"⟩, 3), (⟨"RoastKeeper$History", "slot", "(I)LRoastKeeper$State;"⟩, 3), (⟨"RoastKeeper$ProfileReader", "takes", "(ILRoastKeeper$Text;II)Z"⟩, 2), (⟨"RoastKeeper$ProfileReader", "takesTick", "(I)Z"⟩, 2), (⟨"RoastKeeper$ProfileReader", "takesTemperature", "(I)Z"⟩, 2), (⟨"RoastKeeper$Roaster", "steer", "(LRoastKeeper$SortedRows;)V"⟩, 8), (⟨"RoastKeeper$Roaster", "moveDrum", "()V"⟩, 8), (⟨"RoastKeeper$Roaster", "moveProbe", "()V"⟩, 8), (⟨"RoastKeeper", "deviationWith", "(II)I"⟩, 10), (⟨"RoastKeeperModel", "row", "(III)V"⟩, 10), (⟨"RoastKeeperModel", "put", "(II)I"⟩, 10), (⟨"RoastKeeperModel", "act", "()V"⟩, 10), (⟨"RoastKeeperModel", "place", "(III)I"⟩, 10), (⟨"RoastKeeperModel", "isAt", "(IIII)Z"⟩, 10), (⟨"RoastKeeperModel", "insert", "(IIII)V"⟩, 10), (⟨"RoastKeeperModel", "takeOut", "(III)V"⟩, 10)]
theorem lw_r1 : ∀ q ∈ lw_privs_1, lw_okq q := List.forall_mem_cons.mpr ⟨lw_p0, List.forall_mem_cons.mpr ⟨lw_p1, List.forall_mem_cons.mpr ⟨lw_p2, List.forall_mem_cons.mpr ⟨lw_p3, List.forall_mem_cons.mpr ⟨lw_p4, List.forall_mem_cons.mpr ⟨lw_p5, List.forall_mem_cons.mpr ⟨lw_p6, List.forall_mem_cons.mpr ⟨lw_p7, List.forall_mem_cons.mpr ⟨lw_p8, List.forall_mem_cons.mpr ⟨lw_p9, List.forall_mem_cons.mpr ⟨lw_p10, List.forall_mem_cons.mpr ⟨lw_p11, List.forall_mem_cons.mpr ⟨lw_p12, List.forall_mem_cons.mpr ⟨lw_p13, List.forall_mem_cons.mpr ⟨lw_p14, List.forall_mem_cons.mpr ⟨lw_p15, fun _ h => absurd h List.not_mem_nil⟩⟩⟩⟩⟩⟩⟩⟩⟩⟩⟩⟩⟩⟩⟩⟩
theorem lw_p16 : lw_okq (⟨"RoastKeeperModel", "hold", "()V"⟩, 10) := ⟨⟨by decide +kernel, by decide +kernel⟩, List.mem_of_getElem? (i := 664) (by decide +kernel), List.mem_of_getElem? (i := 783) (by decide +kernel), List.mem_of_getElem? (i := 784) (by decide +kernel)⟩
theorem lw_p17 : lw_okq (⟨"RoastKeeperModel", "skip", "()V"⟩, 10) := ⟨⟨by decide +kernel, by decide +kernel⟩, List.mem_of_getElem? (i := 664) (by decide +kernel), List.mem_of_getElem? (i := 788) (by decide +kernel), List.mem_of_getElem? (i := 789) (by decide +kernel)⟩
theorem lw_p18 : lw_okq (⟨"RoastKeeperModel", "here", "()I"⟩, 10) := ⟨⟨by decide +kernel, by decide +kernel⟩, List.mem_of_getElem? (i := 664) (by decide +kernel), List.mem_of_getElem? (i := 792) (by decide +kernel), List.mem_of_getElem? (i := 793) (by decide +kernel)⟩
theorem lw_p19 : lw_okq (⟨"RoastKeeperModel", "readPoint", "(I)V"⟩, 10) := ⟨⟨by decide +kernel, by decide +kernel⟩, List.mem_of_getElem? (i := 664) (by decide +kernel), List.mem_of_getElem? (i := 796) (by decide +kernel), List.mem_of_getElem? (i := 797) (by decide +kernel)⟩
theorem lw_p20 : lw_okq (⟨"RoastKeeperModel", "takeNumber", "(II)I"⟩, 10) := ⟨⟨by decide +kernel, by decide +kernel⟩, List.mem_of_getElem? (i := 664) (by decide +kernel), List.mem_of_getElem? (i := 800) (by decide +kernel), List.mem_of_getElem? (i := 801) (by decide +kernel)⟩
theorem lw_p21 : lw_okq (⟨"RoastKeeperModel", "release", "()V"⟩, 10) := ⟨⟨by decide +kernel, by decide +kernel⟩, List.mem_of_getElem? (i := 664) (by decide +kernel), List.mem_of_getElem? (i := 804) (by decide +kernel), List.mem_of_getElem? (i := 805) (by decide +kernel)⟩
theorem lw_p22 : lw_okq (⟨"RoastKeeperModel", "isRoasting", "()Z"⟩, 10) := ⟨⟨by decide +kernel, by decide +kernel⟩, List.mem_of_getElem? (i := 664) (by decide +kernel), List.mem_of_getElem? (i := 817) (by decide +kernel), List.mem_of_getElem? (i := 818) (by decide +kernel)⟩
theorem lw_p23 : lw_okq (⟨"RoastKeeperModel", "tick", "()V"⟩, 10) := ⟨⟨by decide +kernel, by decide +kernel⟩, List.mem_of_getElem? (i := 664) (by decide +kernel), List.mem_of_getElem? (i := 832) (by decide +kernel), List.mem_of_getElem? (i := 833) (by decide +kernel)⟩
theorem lw_p24 : lw_okq (⟨"RoastKeeperModel", "control", "()V"⟩, 10) := ⟨⟨by decide +kernel, by decide +kernel⟩, List.mem_of_getElem? (i := 664) (by decide +kernel), List.mem_of_getElem? (i := 836) (by decide +kernel), List.mem_of_getElem? (i := 837) (by decide +kernel)⟩
theorem lw_p25 : lw_okq (⟨"RoastKeeperModel", "targetAt", "(I)I"⟩, 10) := ⟨⟨by decide +kernel, by decide +kernel⟩, List.mem_of_getElem? (i := 664) (by decide +kernel), List.mem_of_getElem? (i := 840) (by decide +kernel), List.mem_of_getElem? (i := 841) (by decide +kernel)⟩
theorem lw_p26 : lw_okq (⟨"RoastKeeperModel", "crack", "()V"⟩, 10) := ⟨⟨by decide +kernel, by decide +kernel⟩, List.mem_of_getElem? (i := 664) (by decide +kernel), List.mem_of_getElem? (i := 847) (by decide +kernel), List.mem_of_getElem? (i := 848) (by decide +kernel)⟩
theorem lw_p27 : lw_okq (⟨"RoastKeeperModel", "rateAt", "(I)I"⟩, 10) := ⟨⟨by decide +kernel, by decide +kernel⟩, List.mem_of_getElem? (i := 664) (by decide +kernel), List.mem_of_getElem? (i := 851) (by decide +kernel), List.mem_of_getElem? (i := 852) (by decide +kernel)⟩
theorem lw_p28 : lw_okq (⟨"RoastKeeperModel", "detect", "()V"⟩, 10) := ⟨⟨by decide +kernel, by decide +kernel⟩, List.mem_of_getElem? (i := 664) (by decide +kernel), List.mem_of_getElem? (i := 855) (by decide +kernel), List.mem_of_getElem? (i := 856) (by decide +kernel)⟩
theorem lw_p29 : lw_okq (⟨"RoastKeeperModel", "ticksUntil", "(II)I"⟩, 10) := ⟨⟨by decide +kernel, by decide +kernel⟩, List.mem_of_getElem? (i := 664) (by decide +kernel), List.mem_of_getElem? (i := 894) (by decide +kernel), List.mem_of_getElem? (i := 895) (by decide +kernel)⟩
theorem lw_p30 : lw_okq (⟨"RoastKeeperModel", "offWith", "(II)I"⟩, 10) := ⟨⟨by decide +kernel, by decide +kernel⟩, List.mem_of_getElem? (i := 664) (by decide +kernel), List.mem_of_getElem? (i := 907) (by decide +kernel), List.mem_of_getElem? (i := 908) (by decide +kernel)⟩
def lw_privs_2 : List (MethodName × Nat) := [(⟨"RoastKeeperModel", "hold", "()V"⟩, 10), (⟨"RoastKeeperModel", "skip", "()V"⟩, 10), (⟨"RoastKeeperModel", "here", "()I"⟩, 10), (⟨"RoastKeeperModel", "readPoint", "(I)V"⟩, 10), (⟨"RoastKeeperModel", "takeNumber", "(II)I"⟩, 10), (⟨"RoastKeeperModel", "release", "()V"⟩, 10), (⟨"RoastKeeperModel", "isRoasting", "()Z"⟩, 10), (⟨"RoastKeeperModel", "tick", "()V"⟩, 10), (⟨"RoastKeeperModel", "control", "()V"⟩, 10), (⟨"RoastKeeperModel", "targetAt", "(I)I"⟩, 10), (⟨"RoastKeeperModel", "crack", "()V"⟩, 10), (⟨"RoastKeeperModel", "rateAt", "(I)I"⟩, 10), (⟨"RoastKeeperModel", "detect", "()V"⟩, 10), (⟨"RoastKeeperModel", "ticksUntil", "(II)I"⟩, 10), (⟨"RoastKeeperModel", "offWith", "(II)I"⟩, 10)]
theorem lw_r2 : ∀ q ∈ lw_privs_2, lw_okq q := List.forall_mem_cons.mpr ⟨lw_p16, List.forall_mem_cons.mpr ⟨lw_p17, List.forall_mem_cons.mpr ⟨lw_p18, List.forall_mem_cons.mpr ⟨lw_p19, List.forall_mem_cons.mpr ⟨lw_p20, List.forall_mem_cons.mpr ⟨lw_p21, List.forall_mem_cons.mpr ⟨lw_p22, List.forall_mem_cons.mpr ⟨lw_p23, List.forall_mem_cons.mpr ⟨lw_p24, List.forall_mem_cons.mpr ⟨lw_p25, List.forall_mem_cons.mpr ⟨lw_p26, List.forall_mem_cons.mpr ⟨lw_p27, List.forall_mem_cons.mpr ⟨lw_p28, List.forall_mem_cons.mpr ⟨lw_p29, List.forall_mem_cons.mpr ⟨lw_p30, fun _ h => absurd h List.not_mem_nil⟩⟩⟩⟩⟩⟩⟩⟩⟩⟩⟩⟩⟩⟩⟩
def lw_privs : List (MethodName × Nat) := lw_privs_1 ++ (lw_privs_2)
def lw_tbl : List Cond := k2_sels lw_privs ++ tables_1
theorem lw_privs_ok : ∀ q ∈ lw_privs, lw_okq q := by
  show ∀ q ∈ lw_privs_1 ++ (lw_privs_2), lw_okq q
  exact List.forall_mem_append.mpr ⟨lw_r1, lw_r2⟩
def RX0 : String := "RoastKeeper$Beans"
def TX0 : u_T := fun k => match k with
  | 0 => ("RoastKeeper$Beans", "temperature", "I", false)
  | 1 => ("RoastKeeper$Beans", "mass", "I", false)
  | 2 => ("RoastKeeper$Beans", "age", "I", false)
  | 3 => ("RoastKeeper$Beans", "loss", "I", false)
  | 4 => ("RoastKeeper$Beans", "pops", "I", false)
  | 5 => ("RoastKeeper$Beans", "recentPops", "[I", true)
  | 6 => ("RoastKeeper$Beans", "crackAt", "I", false)
  | 7 => ("RoastKeeper$Beans", "endedAt", "I", false)
  | _ => ("RoastKeeper$Beans", "hottest", "I", false)
def tyX0 : Nat → FieldType := fun k => match k with
  | 0 => .int
  | 1 => .int
  | 2 => .int
  | 3 => .int
  | 4 => .int
  | 5 => .array .int
  | 6 => .int
  | 7 => .int
  | _ => .int
abbrev wsX00 : List Cond := u_ws RX0 TX0 9
theorem nmX0 : ∀ a, a < 9 → ∀ b, b < 9 → a ≠ b → (TX0 a).2.1 ≠ (TX0 b).2.1 := by decide +kernel
theorem tyX0_ok : ∀ k, k < 9 → parseFieldDescriptor (TX0 k).2.2.1 = some (tyX0 k) := by decide +kernel
abbrev cX0_init : ByteArray := prog_2_method_1_code
def yX0_init : MethodName := ⟨RX0, "<init>", "()V"⟩
abbrev cX0_copyFrom : ByteArray := prog_2_method_2_code
def yX0_copyFrom : MethodName := ⟨RX0, "copyFrom", "(LRoastKeeper$Beans;)V"⟩
abbrev cX0_start : ByteArray := prog_2_method_3_code
def yX0_start : MethodName := ⟨RX0, "start", "(II)V"⟩
abbrev cX0_roast : ByteArray := prog_2_method_4_code
def yX0_roast : MethodName := ⟨RX0, "roast", "(I)V"⟩
abbrev cX0_cool : ByteArray := prog_2_method_5_code
def yX0_cool : MethodName := ⟨RX0, "cool", "(II)V"⟩
abbrev cX0_pop : ByteArray := prog_2_method_6_code
def yX0_pop : MethodName := ⟨RX0, "pop", "(I)V"⟩
abbrev cX0_lookForCrack : ByteArray := prog_2_method_7_code
def yX0_lookForCrack : MethodName := ⟨RX0, "lookForCrack", "(I)V"⟩
abbrev cX0_window : ByteArray := prog_2_method_8_code
def yX0_window : MethodName := ⟨RX0, "window", "()I"⟩
abbrev cX0_number : ByteArray := prog_2_method_9_code
def yX0_number : MethodName := ⟨RX0, "number", "(I)I"⟩
def RX1 : String := "RoastKeeper$History"
def TX1 : u_T := fun k => match k with
  | 0 => ("RoastKeeper$History", "states", "[LRoastKeeper$State;", true)
  | 1 => ("RoastKeeper$History", "oldest", "I", false)
  | _ => ("RoastKeeper$History", "size", "I", false)
def tyX1 : Nat → FieldType := fun k => match k with
  | 0 => .array (.object "RoastKeeper$State")
  | 1 => .int
  | _ => .int
abbrev wsX10 : List Cond := u_ws RX1 TX1 3
theorem nmX1 : ∀ a, a < 3 → ∀ b, b < 3 → a ≠ b → (TX1 a).2.1 ≠ (TX1 b).2.1 := by decide +kernel
theorem tyX1_ok : ∀ k, k < 3 → parseFieldDescriptor (TX1 k).2.2.1 = some (tyX1 k) := by decide +kernel
abbrev cX1_init : ByteArray := prog_3_method_1_code
def yX1_init : MethodName := ⟨RX1, "<init>", "()V"⟩
abbrev cX1_remember : ByteArray := prog_3_method_2_code
def yX1_remember : MethodName := ⟨RX1, "remember", "(LRoastKeeper$State;)V"⟩
abbrev cX1_restore : ByteArray := prog_3_method_3_code
def yX1_restore : MethodName := ⟨RX1, "restore", "(LRoastKeeper$State;)V"⟩
abbrev cX1_slot : ByteArray := prog_3_method_4_code
def yX1_slot : MethodName := ⟨RX1, "slot", "(I)LRoastKeeper$State;"⟩
def RX2 : String := "RoastKeeper$Log"
def TX2 : u_T := fun k => match k with
  | 0 => ("RoastKeeper$Log", "entries", "[I", true)
  | 1 => ("RoastKeeper$Log", "size", "I", false)
  | _ => ("RoastKeeper$Log", "dropped", "I", false)
def tyX2 : Nat → FieldType := fun k => match k with
  | 0 => .array .int
  | 1 => .int
  | _ => .int
abbrev wsX20 : List Cond := u_ws RX2 TX2 3
theorem nmX2 : ∀ a, a < 3 → ∀ b, b < 3 → a ≠ b → (TX2 a).2.1 ≠ (TX2 b).2.1 := by decide +kernel
theorem tyX2_ok : ∀ k, k < 3 → parseFieldDescriptor (TX2 k).2.2.1 = some (tyX2 k) := by decide +kernel
abbrev cX2_init : ByteArray := prog_4_method_1_code
def yX2_init : MethodName := ⟨RX2, "<init>", "()V"⟩
abbrev cX2_copyFrom : ByteArray := prog_4_method_2_code
def yX2_copyFrom : MethodName := ⟨RX2, "copyFrom", "(LRoastKeeper$Log;)V"⟩
abbrev cX2_enter : ByteArray := prog_4_method_3_code
def yX2_enter : MethodName := ⟨RX2, "enter", "(LRoastKeeper$Beans;)V"⟩
abbrev cX2_property : ByteArray := prog_4_method_4_code
def yX2_property : MethodName := ⟨RX2, "property", "(II)I"⟩
abbrev cX2_slope : ByteArray := prog_4_method_5_code
def yX2_slope : MethodName := ⟨RX2, "slope", "(I)I"⟩
def RX3 : String := "RoastKeeper$ProfileReader"
def TX3 : u_T := fun k => match k with
  | 0 => ("RoastKeeper$ProfileReader", "points", "LRoastKeeper$SortedRows;", true)
  | _ => ("RoastKeeper$ProfileReader", "tick", "I", false)
def tyX3 : Nat → FieldType := fun k => match k with
  | 0 => .object "RoastKeeper$SortedRows"
  | _ => .int
abbrev wsX30 : List Cond := u_ws RX3 TX3 2
theorem nmX3 : ∀ a, a < 2 → ∀ b, b < 2 → a ≠ b → (TX3 a).2.1 ≠ (TX3 b).2.1 := by decide +kernel
theorem tyX3_ok : ∀ k, k < 2 → parseFieldDescriptor (TX3 k).2.2.1 = some (tyX3 k) := by decide +kernel
abbrev cX3_init : ByteArray := prog_5_method_1_code
def yX3_init : MethodName := ⟨RX3, "<init>", "()V"⟩
abbrev cX3_errorPosition : ByteArray := prog_5_method_2_code
def yX3_errorPosition : MethodName := ⟨RX3, "errorPosition", "(LRoastKeeper$Text;)I"⟩
abbrev cX3_takes : ByteArray := prog_5_method_3_code
def yX3_takes : MethodName := ⟨RX3, "takes", "(ILRoastKeeper$Text;II)Z"⟩
abbrev cX3_takesTick : ByteArray := prog_5_method_4_code
def yX3_takesTick : MethodName := ⟨RX3, "takesTick", "(I)Z"⟩
abbrev cX3_takesTemperature : ByteArray := prog_5_method_5_code
def yX3_takesTemperature : MethodName := ⟨RX3, "takesTemperature", "(I)Z"⟩
def RX4 : String := "RoastKeeper$Roaster"
def TX4 : u_T := fun k => match k with
  | 0 => ("RoastKeeper$Roaster", "settings", "LRoastKeeper$Settings;", true)
  | 1 => ("RoastKeeper$Roaster", "beans", "LRoastKeeper$Beans;", true)
  | 2 => ("RoastKeeper$Roaster", "time", "I", false)
  | 3 => ("RoastKeeper$Roaster", "phase", "I", false)
  | 4 => ("RoastKeeper$Roaster", "drum", "I", false)
  | 5 => ("RoastKeeper$Roaster", "probe", "I", false)
  | 6 => ("RoastKeeper$Roaster", "power", "I", false)
  | _ => ("RoastKeeper$Roaster", "sum", "I", false)
def tyX4 : Nat → FieldType := fun k => match k with
  | 0 => .object "RoastKeeper$Settings"
  | 1 => .object "RoastKeeper$Beans"
  | 2 => .int
  | 3 => .int
  | 4 => .int
  | 5 => .int
  | 6 => .int
  | _ => .int
abbrev wsX40 : List Cond := u_ws RX4 TX4 8
theorem nmX4 : ∀ a, a < 8 → ∀ b, b < 8 → a ≠ b → (TX4 a).2.1 ≠ (TX4 b).2.1 := by decide +kernel
theorem tyX4_ok : ∀ k, k < 8 → parseFieldDescriptor (TX4 k).2.2.1 = some (tyX4 k) := by decide +kernel
abbrev cX4_init : ByteArray := prog_6_method_1_code
def yX4_init : MethodName := ⟨RX4, "<init>", "()V"⟩
abbrev cX4_copyFrom : ByteArray := prog_6_method_2_code
def yX4_copyFrom : MethodName := ⟨RX4, "copyFrom", "(LRoastKeeper$Roaster;)V"⟩
abbrev cX4_startBatch : ByteArray := prog_6_method_3_code
def yX4_startBatch : MethodName := ⟨RX4, "startBatch", "(I)V"⟩
abbrev cX4_tick : ByteArray := prog_6_method_4_code
def yX4_tick : MethodName := ⟨RX4, "tick", "(LRoastKeeper$SortedRows;LRoastKeeper$SortedRows;)V"⟩
abbrev cX4_steer : ByteArray := prog_6_method_5_code
def yX4_steer : MethodName := ⟨RX4, "steer", "(LRoastKeeper$SortedRows;)V"⟩
abbrev cX4_moveDrum : ByteArray := prog_6_method_6_code
def yX4_moveDrum : MethodName := ⟨RX4, "moveDrum", "()V"⟩
abbrev cX4_moveProbe : ByteArray := prog_6_method_7_code
def yX4_moveProbe : MethodName := ⟨RX4, "moveProbe", "()V"⟩
def RX5 : String := "RoastKeeper$Settings"
def TX5 : u_T := fun k => match k with
  | 0 => ("RoastKeeper$Settings", "ambient", "I", false)
  | 1 => ("RoastKeeper$Settings", "controllerOn", "I", false)
  | 2 => ("RoastKeeper$Settings", "p", "I", false)
  | 3 => ("RoastKeeper$Settings", "i", "I", false)
  | 4 => ("RoastKeeper$Settings", "bias", "I", false)
  | 5 => ("RoastKeeper$Settings", "lag", "I", false)
  | 6 => ("RoastKeeper$Settings", "fouling", "I", false)
  | 7 => ("RoastKeeper$Settings", "crackTemperature", "I", false)
  | 8 => ("RoastKeeper$Settings", "threshold", "I", false)
  | _ => ("RoastKeeper$Settings", "fan", "I", false)
def tyX5 : Nat → FieldType := fun k => match k with
  | 0 => .int
  | 1 => .int
  | 2 => .int
  | 3 => .int
  | 4 => .int
  | 5 => .int
  | 6 => .int
  | 7 => .int
  | 8 => .int
  | _ => .int
abbrev wsX50 : List Cond := u_ws RX5 TX5 10
theorem nmX5 : ∀ a, a < 10 → ∀ b, b < 10 → a ≠ b → (TX5 a).2.1 ≠ (TX5 b).2.1 := by decide +kernel
theorem tyX5_ok : ∀ k, k < 10 → parseFieldDescriptor (TX5 k).2.2.1 = some (tyX5 k) := by decide +kernel
abbrev cX5_init : ByteArray := prog_7_method_1_code
def yX5_init : MethodName := ⟨RX5, "<init>", "()V"⟩
abbrev cX5_copyFrom : ByteArray := prog_7_method_2_code
def yX5_copyFrom : MethodName := ⟨RX5, "copyFrom", "(LRoastKeeper$Settings;)V"⟩
def RX6 : String := "RoastKeeper$SortedRows"
def TX6 : u_T := fun k => match k with
  | 0 => ("RoastKeeper$SortedRows", "keys", "[I", true)
  | 1 => ("RoastKeeper$SortedRows", "values", "[I", true)
  | _ => ("RoastKeeper$SortedRows", "size", "I", false)
def tyX6 : Nat → FieldType := fun k => match k with
  | 0 => .array .int
  | 1 => .array .int
  | _ => .int
abbrev wsX60 : List Cond := u_ws RX6 TX6 3
theorem nmX6 : ∀ a, a < 3 → ∀ b, b < 3 → a ≠ b → (TX6 a).2.1 ≠ (TX6 b).2.1 := by decide +kernel
theorem tyX6_ok : ∀ k, k < 3 → parseFieldDescriptor (TX6 k).2.2.1 = some (tyX6 k) := by decide +kernel
abbrev cX6_init : ByteArray := prog_8_method_1_code
def yX6_init : MethodName := ⟨RX6, "<init>", "(I)V"⟩
abbrev cX6_copyFrom : ByteArray := prog_8_method_2_code
def yX6_copyFrom : MethodName := ⟨RX6, "copyFrom", "(LRoastKeeper$SortedRows;)V"⟩
abbrev cX6_indexBelow : ByteArray := prog_8_method_3_code
def yX6_indexBelow : MethodName := ⟨RX6, "indexBelow", "(I)I"⟩
abbrev cX6_has : ByteArray := prog_8_method_4_code
def yX6_has : MethodName := ⟨RX6, "has", "(I)Z"⟩
abbrev cX6_hasRoomFor : ByteArray := prog_8_method_5_code
def yX6_hasRoomFor : MethodName := ⟨RX6, "hasRoomFor", "(I)Z"⟩
abbrev cX6_set : ByteArray := prog_8_method_6_code
def yX6_set : MethodName := ⟨RX6, "set", "(II)V"⟩
abbrev cX6_insert : ByteArray := prog_8_method_7_code
def yX6_insert : MethodName := ⟨RX6, "insert", "(III)V"⟩
abbrev cX6_remove : ByteArray := prog_8_method_8_code
def yX6_remove : MethodName := ⟨RX6, "remove", "(I)V"⟩
abbrev cX6_valueBelow : ByteArray := prog_8_method_9_code
def yX6_valueBelow : MethodName := ⟨RX6, "valueBelow", "(I)I"⟩
abbrev cX6_valueOnLine : ByteArray := prog_8_method_10_code
def yX6_valueOnLine : MethodName := ⟨RX6, "valueOnLine", "(I)I"⟩
def RX7 : String := "RoastKeeper$State"
def TX7 : u_T := fun k => match k with
  | 0 => ("RoastKeeper$State", "roaster", "LRoastKeeper$Roaster;", true)
  | 1 => ("RoastKeeper$State", "profile", "LRoastKeeper$SortedRows;", true)
  | 2 => ("RoastKeeper$State", "losses", "LRoastKeeper$SortedRows;", true)
  | _ => ("RoastKeeper$State", "log", "LRoastKeeper$Log;", true)
def tyX7 : Nat → FieldType := fun k => match k with
  | 0 => .object "RoastKeeper$Roaster"
  | 1 => .object "RoastKeeper$SortedRows"
  | 2 => .object "RoastKeeper$SortedRows"
  | _ => .object "RoastKeeper$Log"
abbrev wsX70 : List Cond := u_ws RX7 TX7 4
theorem nmX7 : ∀ a, a < 4 → ∀ b, b < 4 → a ≠ b → (TX7 a).2.1 ≠ (TX7 b).2.1 := by decide +kernel
theorem tyX7_ok : ∀ k, k < 4 → parseFieldDescriptor (TX7 k).2.2.1 = some (tyX7 k) := by decide +kernel
abbrev cX7_init : ByteArray := prog_9_method_1_code
def yX7_init : MethodName := ⟨RX7, "<init>", "()V"⟩
abbrev cX7_copyFrom : ByteArray := prog_9_method_2_code
def yX7_copyFrom : MethodName := ⟨RX7, "copyFrom", "(LRoastKeeper$State;)V"⟩
def RX8 : String := "RoastKeeper$Text"
def TX8 : u_T := fun k => match k with
  | 0 => ("RoastKeeper$Text", "characters", "[I", true)
  | _ => ("RoastKeeper$Text", "length", "I", false)
def tyX8 : Nat → FieldType := fun k => match k with
  | 0 => .array .int
  | _ => .int
abbrev wsX80 : List Cond := u_ws RX8 TX8 2
theorem nmX8 : ∀ a, a < 2 → ∀ b, b < 2 → a ≠ b → (TX8 a).2.1 ≠ (TX8 b).2.1 := by decide +kernel
theorem tyX8_ok : ∀ k, k < 2 → parseFieldDescriptor (TX8 k).2.2.1 = some (tyX8 k) := by decide +kernel
abbrev cX8_init : ByteArray := prog_10_method_1_code
def yX8_init : MethodName := ⟨RX8, "<init>", "()V"⟩
abbrev cX8_add : ByteArray := prog_10_method_2_code
def yX8_add : MethodName := ⟨RX8, "add", "(I)V"⟩
abbrev cX8_character : ByteArray := prog_10_method_3_code
def yX8_character : MethodName := ⟨RX8, "character", "(I)I"⟩
abbrev cX8_isDigit : ByteArray := prog_10_method_4_code
def yX8_isDigit : MethodName := ⟨RX8, "isDigit", "(I)Z"⟩
abbrev cX8_afterSpaces : ByteArray := prog_10_method_5_code
def yX8_afterSpaces : MethodName := ⟨RX8, "afterSpaces", "(I)I"⟩
abbrev cX8_afterToken : ByteArray := prog_10_method_6_code
def yX8_afterToken : MethodName := ⟨RX8, "afterToken", "(I)I"⟩
abbrev cX8_numberIn : ByteArray := prog_10_method_7_code
def yX8_numberIn : MethodName := ⟨RX8, "numberIn", "(II)I"⟩
def RX9 : String := "RoastKeeper"
def TX9 : u_T := fun k => match k with
  | 0 => ("RoastKeeper", "now", "LRoastKeeper$State;", true)
  | 1 => ("RoastKeeper", "roaster", "LRoastKeeper$Roaster;", true)
  | 2 => ("RoastKeeper", "settings", "LRoastKeeper$Settings;", true)
  | 3 => ("RoastKeeper", "profile", "LRoastKeeper$SortedRows;", true)
  | 4 => ("RoastKeeper", "losses", "LRoastKeeper$SortedRows;", true)
  | 5 => ("RoastKeeper", "log", "LRoastKeeper$Log;", true)
  | 6 => ("RoastKeeper", "history", "LRoastKeeper$History;", true)
  | 7 => ("RoastKeeper", "text", "LRoastKeeper$Text;", true)
  | 8 => ("RoastKeeper", "reader", "LRoastKeeper$ProfileReader;", true)
  | _ => ("RoastKeeper", "trial", "LRoastKeeper$Roaster;", true)
def tyX9 : Nat → FieldType := fun k => match k with
  | 0 => .object "RoastKeeper$State"
  | 1 => .object "RoastKeeper$Roaster"
  | 2 => .object "RoastKeeper$Settings"
  | 3 => .object "RoastKeeper$SortedRows"
  | 4 => .object "RoastKeeper$SortedRows"
  | 5 => .object "RoastKeeper$Log"
  | 6 => .object "RoastKeeper$History"
  | 7 => .object "RoastKeeper$Text"
  | 8 => .object "RoastKeeper$ProfileReader"
  | _ => .object "RoastKeeper$Roaster"
abbrev wsX90 : List Cond := u_ws RX9 TX9 10
theorem nmX9 : ∀ a, a < 10 → ∀ b, b < 10 → a ≠ b → (TX9 a).2.1 ≠ (TX9 b).2.1 := by decide +kernel
theorem tyX9_ok : ∀ k, k < 10 → parseFieldDescriptor (TX9 k).2.2.1 = some (tyX9 k) := by decide +kernel
abbrev cX9_init : ByteArray := prog_1_method_1_code
def yX9_init : MethodName := ⟨RX9, "<init>", "()V"⟩
abbrev cX9_setAmbient : ByteArray := prog_1_method_2_code
def yX9_setAmbient : MethodName := ⟨RX9, "setAmbient", "(I)I"⟩
abbrev cX9_setPower : ByteArray := prog_1_method_3_code
def yX9_setPower : MethodName := ⟨RX9, "setPower", "(I)I"⟩
abbrev cX9_setController : ByteArray := prog_1_method_4_code
def yX9_setController : MethodName := ⟨RX9, "setController", "(IIII)I"⟩
abbrev cX9_setProbe : ByteArray := prog_1_method_5_code
def yX9_setProbe : MethodName := ⟨RX9, "setProbe", "(II)I"⟩
abbrev cX9_setCrack : ByteArray := prog_1_method_6_code
def yX9_setCrack : MethodName := ⟨RX9, "setCrack", "(II)I"⟩
abbrev cX9_setFan : ByteArray := prog_1_method_7_code
def yX9_setFan : MethodName := ⟨RX9, "setFan", "(I)I"⟩
abbrev cX9_setPoint : ByteArray := prog_1_method_8_code
def yX9_setPoint : MethodName := ⟨RX9, "setPoint", "(II)I"⟩
abbrev cX9_removePoint : ByteArray := prog_1_method_9_code
def yX9_removePoint : MethodName := ⟨RX9, "removePoint", "(I)I"⟩
abbrev cX9_setRow : ByteArray := prog_1_method_10_code
def yX9_setRow : MethodName := ⟨RX9, "setRow", "(II)I"⟩
abbrev cX9_append : ByteArray := prog_1_method_11_code
def yX9_append : MethodName := ⟨RX9, "append", "(I)I"⟩
abbrev cX9_clearText : ByteArray := prog_1_method_12_code
def yX9_clearText : MethodName := ⟨RX9, "clearText", "()I"⟩
abbrev cX9_load : ByteArray := prog_1_method_13_code
def yX9_load : MethodName := ⟨RX9, "load", "()I"⟩
abbrev cX9_charge : ByteArray := prog_1_method_14_code
def yX9_charge : MethodName := ⟨RX9, "charge", "(I)I"⟩
abbrev cX9_drop : ByteArray := prog_1_method_15_code
def yX9_drop : MethodName := ⟨RX9, "drop", "()I"⟩
abbrev cX9_takeAway : ByteArray := prog_1_method_16_code
def yX9_takeAway : MethodName := ⟨RX9, "takeAway", "()I"⟩
abbrev cX9_run : ByteArray := prog_1_method_17_code
def yX9_run : MethodName := ⟨RX9, "run", "(I)I"⟩
abbrev cX9_undo : ByteArray := prog_1_method_18_code
def yX9_undo : MethodName := ⟨RX9, "undo", "()I"⟩
abbrev cX9_count : ByteArray := prog_1_method_19_code
def yX9_count : MethodName := ⟨RX9, "count", "(I)I"⟩
abbrev cX9_batch : ByteArray := prog_1_method_20_code
def yX9_batch : MethodName := ⟨RX9, "batch", "(I)I"⟩
abbrev cX9_target : ByteArray := prog_1_method_21_code
def yX9_target : MethodName := ⟨RX9, "target", "(I)I"⟩
abbrev cX9_rate : ByteArray := prog_1_method_22_code
def yX9_rate : MethodName := ⟨RX9, "rate", "(I)I"⟩
abbrev cX9_logged : ByteArray := prog_1_method_23_code
def yX9_logged : MethodName := ⟨RX9, "logged", "(II)I"⟩
abbrev cX9_drift : ByteArray := prog_1_method_24_code
def yX9_drift : MethodName := ⟨RX9, "drift", "(I)I"⟩
abbrev cX9_ticksTo : ByteArray := prog_1_method_25_code
def yX9_ticksTo : MethodName := ⟨RX9, "ticksTo", "(I)I"⟩
abbrev cX9_ticksToLoss : ByteArray := prog_1_method_26_code
def yX9_ticksToLoss : MethodName := ⟨RX9, "ticksToLoss", "(I)I"⟩
abbrev cX9_bestBias : ByteArray := prog_1_method_27_code
def yX9_bestBias : MethodName := ⟨RX9, "bestBias", "(I)I"⟩
abbrev cX9_deviationWith : ByteArray := prog_1_method_28_code
def yX9_deviationWith : MethodName := ⟨RX9, "deviationWith", "(II)I"⟩
abbrev cX9_inRange : ByteArray := prog_1_method_29_code
def yX9_inRange : MethodName := ⟨RX9, "inRange", "(III)Z"⟩
abbrev cX9_clamp : ByteArray := prog_1_method_30_code
def yX9_clamp : MethodName := ⟨RX9, "clamp", "(III)I"⟩
abbrev cX9_quotient : ByteArray := prog_1_method_31_code
def yX9_quotient : MethodName := ⟨RX9, "quotient", "(JJ)J"⟩
abbrev cX9_at : ByteArray := prog_1_method_32_code
def yX9_at : MethodName := ⟨RX9, "at", "([II)I"⟩
abbrev cX9_put : ByteArray := prog_1_method_33_code
def yX9_put : MethodName := ⟨RX9, "put", "([III)V"⟩
abbrev cX9_copyRow : ByteArray := prog_1_method_34_code
def yX9_copyRow : MethodName := ⟨RX9, "copyRow", "([I[I)V"⟩
def RX10 : String := "RoastKeeperModel"
def TX10 : u_T := fun k => match k with
  | 0 => ("RoastKeeperModel", "thrown", "I", false)
  | 1 => ("RoastKeeperModel", "s", "[I", true)
  | 2 => ("RoastKeeperModel", "aside", "[I", true)
  | 3 => ("RoastKeeperModel", "saved", "[I", true)
  | 4 => ("RoastKeeperModel", "savedMany", "I", false)
  | 5 => ("RoastKeeperModel", "text", "[I", true)
  | 6 => ("RoastKeeperModel", "length", "I", false)
  | 7 => ("RoastKeeperModel", "next", "I", false)
  | 8 => ("RoastKeeperModel", "wrong", "I", false)
  | _ => ("RoastKeeperModel", "points", "[I", true)
def tyX10 : Nat → FieldType := fun k => match k with
  | 0 => .int
  | 1 => .array .int
  | 2 => .array .int
  | 3 => .array .int
  | 4 => .int
  | 5 => .array .int
  | 6 => .int
  | 7 => .int
  | 8 => .int
  | _ => .array .int
abbrev wsX100 : List Cond := u_ws RX10 TX10 10
theorem nmX10 : ∀ a, a < 10 → ∀ b, b < 10 → a ≠ b → (TX10 a).2.1 ≠ (TX10 b).2.1 := by decide +kernel
theorem tyX10_ok : ∀ k, k < 10 → parseFieldDescriptor (TX10 k).2.2.1 = some (tyX10 k) := by decide +kernel
abbrev cX10_init : ByteArray := prog_12_method_1_code
def yX10_init : MethodName := ⟨RX10, "<init>", "()V"⟩
abbrev cX10_in : ByteArray := prog_12_method_3_code
def yX10_in : MethodName := ⟨RX10, "in", "(III)Z"⟩
abbrev cX10_down : ByteArray := prog_12_method_4_code
def yX10_down : MethodName := ⟨RX10, "down", "(II)I"⟩
abbrev cX10_clamp : ByteArray := prog_12_method_5_code
def yX10_clamp : MethodName := ⟨RX10, "clamp", "(III)I"⟩
abbrev cX10_row : ByteArray := prog_12_method_6_code
def yX10_row : MethodName := ⟨RX10, "row", "(III)V"⟩
abbrev cX10_hold : ByteArray := prog_12_method_7_code
def yX10_hold : MethodName := ⟨RX10, "hold", "()V"⟩
abbrev cX10_release : ByteArray := prog_12_method_8_code
def yX10_release : MethodName := ⟨RX10, "release", "()V"⟩
abbrev cX10_act : ByteArray := prog_12_method_9_code
def yX10_act : MethodName := ⟨RX10, "act", "()V"⟩
abbrev cX10_isRoasting : ByteArray := prog_12_method_10_code
def yX10_isRoasting : MethodName := ⟨RX10, "isRoasting", "()Z"⟩
abbrev cX10_put : ByteArray := prog_12_method_11_code
def yX10_put : MethodName := ⟨RX10, "put", "(II)I"⟩
abbrev cX10_setAmbient : ByteArray := prog_12_method_12_code
def yX10_setAmbient : MethodName := ⟨RX10, "setAmbient", "(I)I"⟩
abbrev cX10_setPower : ByteArray := prog_12_method_13_code
def yX10_setPower : MethodName := ⟨RX10, "setPower", "(I)I"⟩
abbrev cX10_setController : ByteArray := prog_12_method_14_code
def yX10_setController : MethodName := ⟨RX10, "setController", "(IIII)I"⟩
abbrev cX10_setProbe : ByteArray := prog_12_method_15_code
def yX10_setProbe : MethodName := ⟨RX10, "setProbe", "(II)I"⟩
abbrev cX10_setCrack : ByteArray := prog_12_method_16_code
def yX10_setCrack : MethodName := ⟨RX10, "setCrack", "(II)I"⟩
abbrev cX10_setFan : ByteArray := prog_12_method_17_code
def yX10_setFan : MethodName := ⟨RX10, "setFan", "(I)I"⟩
abbrev cX10_place : ByteArray := prog_12_method_18_code
def yX10_place : MethodName := ⟨RX10, "place", "(III)I"⟩
abbrev cX10_isAt : ByteArray := prog_12_method_19_code
def yX10_isAt : MethodName := ⟨RX10, "isAt", "(IIII)Z"⟩
abbrev cX10_insert : ByteArray := prog_12_method_20_code
def yX10_insert : MethodName := ⟨RX10, "insert", "(IIII)V"⟩
abbrev cX10_takeOut : ByteArray := prog_12_method_21_code
def yX10_takeOut : MethodName := ⟨RX10, "takeOut", "(III)V"⟩
abbrev cX10_setPoint : ByteArray := prog_12_method_22_code
def yX10_setPoint : MethodName := ⟨RX10, "setPoint", "(II)I"⟩
abbrev cX10_removePoint : ByteArray := prog_12_method_23_code
def yX10_removePoint : MethodName := ⟨RX10, "removePoint", "(I)I"⟩
abbrev cX10_setRow : ByteArray := prog_12_method_24_code
def yX10_setRow : MethodName := ⟨RX10, "setRow", "(II)I"⟩
abbrev cX10_append : ByteArray := prog_12_method_25_code
def yX10_append : MethodName := ⟨RX10, "append", "(I)I"⟩
abbrev cX10_clearText : ByteArray := prog_12_method_26_code
def yX10_clearText : MethodName := ⟨RX10, "clearText", "()I"⟩
abbrev cX10_here : ByteArray := prog_12_method_27_code
def yX10_here : MethodName := ⟨RX10, "here", "()I"⟩
abbrev cX10_skip : ByteArray := prog_12_method_28_code
def yX10_skip : MethodName := ⟨RX10, "skip", "()V"⟩
abbrev cX10_takeNumber : ByteArray := prog_12_method_29_code
def yX10_takeNumber : MethodName := ⟨RX10, "takeNumber", "(II)I"⟩
abbrev cX10_readPoint : ByteArray := prog_12_method_30_code
def yX10_readPoint : MethodName := ⟨RX10, "readPoint", "(I)V"⟩
abbrev cX10_load : ByteArray := prog_12_method_31_code
def yX10_load : MethodName := ⟨RX10, "load", "()I"⟩
abbrev cX10_charge : ByteArray := prog_12_method_32_code
def yX10_charge : MethodName := ⟨RX10, "charge", "(I)I"⟩
abbrev cX10_drop : ByteArray := prog_12_method_33_code
def yX10_drop : MethodName := ⟨RX10, "drop", "()I"⟩
abbrev cX10_takeAway : ByteArray := prog_12_method_34_code
def yX10_takeAway : MethodName := ⟨RX10, "takeAway", "()I"⟩
abbrev cX10_targetAt : ByteArray := prog_12_method_35_code
def yX10_targetAt : MethodName := ⟨RX10, "targetAt", "(I)I"⟩
abbrev cX10_rateAt : ByteArray := prog_12_method_36_code
def yX10_rateAt : MethodName := ⟨RX10, "rateAt", "(I)I"⟩
abbrev cX10_control : ByteArray := prog_12_method_37_code
def yX10_control : MethodName := ⟨RX10, "control", "()V"⟩
abbrev cX10_crack : ByteArray := prog_12_method_38_code
def yX10_crack : MethodName := ⟨RX10, "crack", "()V"⟩
abbrev cX10_detect : ByteArray := prog_12_method_39_code
def yX10_detect : MethodName := ⟨RX10, "detect", "()V"⟩
abbrev cX10_tick : ByteArray := prog_12_method_40_code
def yX10_tick : MethodName := ⟨RX10, "tick", "()V"⟩
abbrev cX10_run : ByteArray := prog_12_method_41_code
def yX10_run : MethodName := ⟨RX10, "run", "(I)I"⟩
abbrev cX10_undo : ByteArray := prog_12_method_42_code
def yX10_undo : MethodName := ⟨RX10, "undo", "()I"⟩
abbrev cX10_count : ByteArray := prog_12_method_43_code
def yX10_count : MethodName := ⟨RX10, "count", "(I)I"⟩
abbrev cX10_batch : ByteArray := prog_12_method_44_code
def yX10_batch : MethodName := ⟨RX10, "batch", "(I)I"⟩
abbrev cX10_target : ByteArray := prog_12_method_45_code
def yX10_target : MethodName := ⟨RX10, "target", "(I)I"⟩
abbrev cX10_rate : ByteArray := prog_12_method_46_code
def yX10_rate : MethodName := ⟨RX10, "rate", "(I)I"⟩
abbrev cX10_logged : ByteArray := prog_12_method_47_code
def yX10_logged : MethodName := ⟨RX10, "logged", "(II)I"⟩
abbrev cX10_drift : ByteArray := prog_12_method_48_code
def yX10_drift : MethodName := ⟨RX10, "drift", "(I)I"⟩
abbrev cX10_ticksUntil : ByteArray := prog_12_method_49_code
def yX10_ticksUntil : MethodName := ⟨RX10, "ticksUntil", "(II)I"⟩
abbrev cX10_ticksTo : ByteArray := prog_12_method_50_code
def yX10_ticksTo : MethodName := ⟨RX10, "ticksTo", "(I)I"⟩
abbrev cX10_ticksToLoss : ByteArray := prog_12_method_51_code
def yX10_ticksToLoss : MethodName := ⟨RX10, "ticksToLoss", "(I)I"⟩
abbrev cX10_offWith : ByteArray := prog_12_method_52_code
def yX10_offWith : MethodName := ⟨RX10, "offWith", "(II)I"⟩
abbrev cX10_bestBias : ByteArray := prog_12_method_53_code
def yX10_bestBias : MethodName := ⟨RX10, "bestBias", "(I)I"⟩
def RJ9 : String := "java/lang/Math"
def TJ9 : u_T := fun k => match k with
  | _ => ("", "", "", false)
def tyJ9 : Nat → FieldType := fun k => match k with
  | _ => .int
abbrev wsJ90 : List Cond := u_ws RJ9 TJ9 0
theorem nmJ9 : ∀ a, a < 0 → ∀ b, b < 0 → a ≠ b → (TJ9 a).2.1 ≠ (TJ9 b).2.1 := by decide +kernel
theorem tyJ9_ok : ∀ k, k < 0 → parseFieldDescriptor (TJ9 k).2.2.1 = some (tyJ9 k) := by decide +kernel
abbrev cJ9_floorDiv_7cf53 : ByteArray := prog_13_method_47_code
def yJ9_floorDiv_7cf53 : MethodName := ⟨RJ9, "floorDiv", "(II)I"⟩
abbrev cJ9_floorDiv_f86c9 : ByteArray := prog_13_method_49_code
def yJ9_floorDiv_f86c9 : MethodName := ⟨RJ9, "floorDiv", "(JJ)J"⟩
abbrev cJ9_floorMod_7cf53 : ByteArray := prog_13_method_50_code
def yJ9_floorMod_7cf53 : MethodName := ⟨RJ9, "floorMod", "(II)I"⟩
abbrev cJ9_abs_0f7a4 : ByteArray := prog_13_method_59_code
def yJ9_abs_0f7a4 : MethodName := ⟨RJ9, "abs", "(I)I"⟩
abbrev cJ9_max_7cf53 : ByteArray := prog_13_method_65_code
def yJ9_max_7cf53 : MethodName := ⟨RJ9, "max", "(II)I"⟩
abbrev cJ9_min_7cf53 : ByteArray := prog_13_method_69_code
def yJ9_min_7cf53 : MethodName := ⟨RJ9, "min", "(II)I"⟩
def RJ10 : String := "java/lang/System"
def TJ10 : u_T := fun k => match k with
  | _ => ("", "", "", false)
def tyJ10 : Nat → FieldType := fun k => match k with
  | _ => .int
abbrev wsJ100 : List Cond := u_ws RJ10 TJ10 0
theorem nmJ10 : ∀ a, a < 0 → ∀ b, b < 0 → a ≠ b → (TJ10 a).2.1 ≠ (TJ10 b).2.1 := by decide +kernel
theorem tyJ10_ok : ∀ k, k < 0 → parseFieldDescriptor (TJ10 k).2.2.1 = some (tyJ10 k) := by decide +kernel
def RL : String := "RoastKeeperLaw"
abbrev cL_law : ByteArray := code
def yL_law : MethodName := ⟨RL, "law", "([I)Z"⟩
abbrev vwCl : List vw_C := [(RX0, TX0, 9), (RX1, TX1, 3), (RX2, TX2, 3), (RX3, TX3, 2), (RX4, TX4, 8), (RX5, TX5, 10), (RX6, TX6, 3), (RX7, TX7, 4), (RX8, TX8, 2), (RX9, TX9, 10), (RX10, TX10, 10)]
end
section
theorem dX0_init_0 : decode cX0_init 0 = .ok (.aload_n 0, 1) := by decide +kernel
theorem dX0_init_1 : decode cX0_init 1 = .ok (.invokespecial 3, 3) := by decide +kernel
theorem dX0_init_4 : decode cX0_init 4 = .ok (.aload_n 0, 1) := by decide +kernel
theorem dX0_init_5 : decode cX0_init 5 = .ok (.iconst 0, 1) := by decide +kernel
theorem dX0_init_6 : decode cX0_init 6 = .ok (.putfield 9, 3) := by decide +kernel
theorem dX0_init_9 : decode cX0_init 9 = .ok (.aload_n 0, 1) := by decide +kernel
theorem dX0_init_10 : decode cX0_init 10 = .ok (.iconst 0, 1) := by decide +kernel
theorem dX0_init_11 : decode cX0_init 11 = .ok (.putfield 15, 3) := by decide +kernel
theorem dX0_init_14 : decode cX0_init 14 = .ok (.aload_n 0, 1) := by decide +kernel
theorem dX0_init_15 : decode cX0_init 15 = .ok (.iconst 0, 1) := by decide +kernel
theorem dX0_init_16 : decode cX0_init 16 = .ok (.putfield 18, 3) := by decide +kernel
theorem dX0_init_19 : decode cX0_init 19 = .ok (.aload_n 0, 1) := by decide +kernel
theorem dX0_init_20 : decode cX0_init 20 = .ok (.iconst 0, 1) := by decide +kernel
theorem dX0_init_21 : decode cX0_init 21 = .ok (.putfield 21, 3) := by decide +kernel
theorem dX0_init_24 : decode cX0_init 24 = .ok (.aload_n 0, 1) := by decide +kernel
theorem dX0_init_25 : decode cX0_init 25 = .ok (.iconst 0, 1) := by decide +kernel
theorem dX0_init_26 : decode cX0_init 26 = .ok (.putfield 24, 3) := by decide +kernel
theorem dX0_init_29 : decode cX0_init 29 = .ok (.aload_n 0, 1) := by decide +kernel
theorem dX0_init_30 : decode cX0_init 30 = .ok (.bipush 6, 2) := by decide +kernel
theorem dX0_init_32 : decode cX0_init 32 = .ok (.newarray .int, 2) := by decide +kernel
theorem dX0_init_34 : decode cX0_init 34 = .ok (.putfield 27, 3) := by decide +kernel
theorem dX0_init_37 : decode cX0_init 37 = .ok (.aload_n 0, 1) := by decide +kernel
theorem dX0_init_38 : decode cX0_init 38 = .ok (.ldc 31, 2) := by decide +kernel
theorem dX0_init_40 : decode cX0_init 40 = .ok (.putfield 32, 3) := by decide +kernel
theorem dX0_init_43 : decode cX0_init 43 = .ok (.aload_n 0, 1) := by decide +kernel
theorem dX0_init_44 : decode cX0_init 44 = .ok (.ldc 31, 2) := by decide +kernel
theorem dX0_init_46 : decode cX0_init 46 = .ok (.putfield 35, 3) := by decide +kernel
theorem dX0_init_49 : decode cX0_init 49 = .ok (.aload_n 0, 1) := by decide +kernel
theorem dX0_init_50 : decode cX0_init 50 = .ok (.iconst 0, 1) := by decide +kernel
theorem dX0_init_51 : decode cX0_init 51 = .ok (.putfield 38, 3) := by decide +kernel
theorem dX0_init_54 : decode cX0_init 54 = .ok (.return_, 1) := by decide +kernel
theorem dX0_copyFrom_0 : decode cX0_copyFrom 0 = .ok (.aload_n 0, 1) := by decide +kernel
theorem dX0_copyFrom_1 : decode cX0_copyFrom 1 = .ok (.aload_n 1, 1) := by decide +kernel
theorem dX0_copyFrom_2 : decode cX0_copyFrom 2 = .ok (.getfield 9, 3) := by decide +kernel
theorem dX0_copyFrom_5 : decode cX0_copyFrom 5 = .ok (.putfield 9, 3) := by decide +kernel
theorem dX0_copyFrom_8 : decode cX0_copyFrom 8 = .ok (.aload_n 0, 1) := by decide +kernel
theorem dX0_copyFrom_9 : decode cX0_copyFrom 9 = .ok (.aload_n 1, 1) := by decide +kernel
theorem dX0_copyFrom_10 : decode cX0_copyFrom 10 = .ok (.getfield 15, 3) := by decide +kernel
theorem dX0_copyFrom_13 : decode cX0_copyFrom 13 = .ok (.putfield 15, 3) := by decide +kernel
theorem dX0_copyFrom_16 : decode cX0_copyFrom 16 = .ok (.aload_n 0, 1) := by decide +kernel
theorem dX0_copyFrom_17 : decode cX0_copyFrom 17 = .ok (.aload_n 1, 1) := by decide +kernel
theorem dX0_copyFrom_18 : decode cX0_copyFrom 18 = .ok (.getfield 18, 3) := by decide +kernel
theorem dX0_copyFrom_21 : decode cX0_copyFrom 21 = .ok (.putfield 18, 3) := by decide +kernel
theorem dX0_copyFrom_24 : decode cX0_copyFrom 24 = .ok (.aload_n 0, 1) := by decide +kernel
theorem dX0_copyFrom_25 : decode cX0_copyFrom 25 = .ok (.aload_n 1, 1) := by decide +kernel
theorem dX0_copyFrom_26 : decode cX0_copyFrom 26 = .ok (.getfield 21, 3) := by decide +kernel
theorem dX0_copyFrom_29 : decode cX0_copyFrom 29 = .ok (.putfield 21, 3) := by decide +kernel
theorem dX0_copyFrom_32 : decode cX0_copyFrom 32 = .ok (.aload_n 0, 1) := by decide +kernel
theorem dX0_copyFrom_33 : decode cX0_copyFrom 33 = .ok (.aload_n 1, 1) := by decide +kernel
theorem dX0_copyFrom_34 : decode cX0_copyFrom 34 = .ok (.getfield 24, 3) := by decide +kernel
theorem dX0_copyFrom_37 : decode cX0_copyFrom 37 = .ok (.putfield 24, 3) := by decide +kernel
theorem dX0_copyFrom_40 : decode cX0_copyFrom 40 = .ok (.aload_n 1, 1) := by decide +kernel
theorem dX0_copyFrom_41 : decode cX0_copyFrom 41 = .ok (.getfield 27, 3) := by decide +kernel
theorem dX0_copyFrom_44 : decode cX0_copyFrom 44 = .ok (.aload_n 0, 1) := by decide +kernel
theorem dX0_copyFrom_45 : decode cX0_copyFrom 45 = .ok (.getfield 27, 3) := by decide +kernel
theorem dX0_copyFrom_48 : decode cX0_copyFrom 48 = .ok (.invokestatic 41, 3) := by decide +kernel
theorem dX0_copyFrom_51 : decode cX0_copyFrom 51 = .ok (.aload_n 0, 1) := by decide +kernel
theorem dX0_copyFrom_52 : decode cX0_copyFrom 52 = .ok (.aload_n 1, 1) := by decide +kernel
theorem dX0_copyFrom_53 : decode cX0_copyFrom 53 = .ok (.getfield 32, 3) := by decide +kernel
theorem dX0_copyFrom_56 : decode cX0_copyFrom 56 = .ok (.putfield 32, 3) := by decide +kernel
theorem dX0_copyFrom_59 : decode cX0_copyFrom 59 = .ok (.aload_n 0, 1) := by decide +kernel
theorem dX0_copyFrom_60 : decode cX0_copyFrom 60 = .ok (.aload_n 1, 1) := by decide +kernel
theorem dX0_copyFrom_61 : decode cX0_copyFrom 61 = .ok (.getfield 35, 3) := by decide +kernel
theorem dX0_copyFrom_64 : decode cX0_copyFrom 64 = .ok (.putfield 35, 3) := by decide +kernel
theorem dX0_copyFrom_67 : decode cX0_copyFrom 67 = .ok (.aload_n 0, 1) := by decide +kernel
theorem dX0_copyFrom_68 : decode cX0_copyFrom 68 = .ok (.aload_n 1, 1) := by decide +kernel
theorem dX0_copyFrom_69 : decode cX0_copyFrom 69 = .ok (.getfield 38, 3) := by decide +kernel
theorem dX0_copyFrom_72 : decode cX0_copyFrom 72 = .ok (.putfield 38, 3) := by decide +kernel
theorem dX0_copyFrom_75 : decode cX0_copyFrom 75 = .ok (.return_, 1) := by decide +kernel
theorem dX0_start_0 : decode cX0_start 0 = .ok (.aload_n 0, 1) := by decide +kernel
theorem dX0_start_1 : decode cX0_start 1 = .ok (.iload_n 2, 1) := by decide +kernel
theorem dX0_start_2 : decode cX0_start 2 = .ok (.putfield 9, 3) := by decide +kernel
theorem dX0_start_5 : decode cX0_start 5 = .ok (.aload_n 0, 1) := by decide +kernel
theorem dX0_start_6 : decode cX0_start 6 = .ok (.iload_n 1, 1) := by decide +kernel
theorem dX0_start_7 : decode cX0_start 7 = .ok (.putfield 15, 3) := by decide +kernel
theorem dX0_start_10 : decode cX0_start 10 = .ok (.aload_n 0, 1) := by decide +kernel
theorem dX0_start_11 : decode cX0_start 11 = .ok (.iconst 0, 1) := by decide +kernel
theorem dX0_start_12 : decode cX0_start 12 = .ok (.putfield 18, 3) := by decide +kernel
theorem dX0_start_15 : decode cX0_start 15 = .ok (.aload_n 0, 1) := by decide +kernel
theorem dX0_start_16 : decode cX0_start 16 = .ok (.iconst 0, 1) := by decide +kernel
theorem dX0_start_17 : decode cX0_start 17 = .ok (.putfield 21, 3) := by decide +kernel
theorem dX0_start_20 : decode cX0_start 20 = .ok (.aload_n 0, 1) := by decide +kernel
theorem dX0_start_21 : decode cX0_start 21 = .ok (.iconst 0, 1) := by decide +kernel
theorem dX0_start_22 : decode cX0_start 22 = .ok (.putfield 24, 3) := by decide +kernel
theorem dX0_start_25 : decode cX0_start 25 = .ok (.iconst 0, 1) := by decide +kernel
theorem dX0_start_26 : decode cX0_start 26 = .ok (.istore_n 3, 1) := by decide +kernel
theorem dX0_start_27 : decode cX0_start 27 = .ok (.iload_n 3, 1) := by decide +kernel
theorem dX0_start_28 : decode cX0_start 28 = .ok (.bipush 6, 2) := by decide +kernel
theorem dX0_start_30 : decode cX0_start 30 = .ok (.if_icmp .ge 18, 3) := by decide +kernel
theorem dX0_start_33 : decode cX0_start 33 = .ok (.aload_n 0, 1) := by decide +kernel
theorem dX0_start_34 : decode cX0_start 34 = .ok (.getfield 27, 3) := by decide +kernel
theorem dX0_start_37 : decode cX0_start 37 = .ok (.iload_n 3, 1) := by decide +kernel
theorem dX0_start_38 : decode cX0_start 38 = .ok (.iconst 0, 1) := by decide +kernel
theorem dX0_start_39 : decode cX0_start 39 = .ok (.invokestatic 45, 3) := by decide +kernel
theorem dX0_start_42 : decode cX0_start 42 = .ok (.iinc 3 1, 3) := by decide +kernel
theorem dX0_start_45 : decode cX0_start 45 = .ok (.goto (-18), 3) := by decide +kernel
theorem dX0_start_48 : decode cX0_start 48 = .ok (.aload_n 0, 1) := by decide +kernel
theorem dX0_start_49 : decode cX0_start 49 = .ok (.ldc 31, 2) := by decide +kernel
theorem dX0_start_51 : decode cX0_start 51 = .ok (.putfield 32, 3) := by decide +kernel
theorem dX0_start_54 : decode cX0_start 54 = .ok (.aload_n 0, 1) := by decide +kernel
theorem dX0_start_55 : decode cX0_start 55 = .ok (.ldc 31, 2) := by decide +kernel
theorem dX0_start_57 : decode cX0_start 57 = .ok (.putfield 35, 3) := by decide +kernel
theorem dX0_start_60 : decode cX0_start 60 = .ok (.aload_n 0, 1) := by decide +kernel
theorem dX0_start_61 : decode cX0_start 61 = .ok (.iload_n 2, 1) := by decide +kernel
theorem dX0_start_62 : decode cX0_start 62 = .ok (.putfield 38, 3) := by decide +kernel
theorem dX0_start_65 : decode cX0_start 65 = .ok (.return_, 1) := by decide +kernel
theorem dX0_roast_0 : decode cX0_roast 0 = .ok (.aload_n 0, 1) := by decide +kernel
theorem dX0_roast_1 : decode cX0_roast 1 = .ok (.dup, 1) := by decide +kernel
theorem dX0_roast_2 : decode cX0_roast 2 = .ok (.getfield 9, 3) := by decide +kernel
theorem dX0_roast_5 : decode cX0_roast 5 = .ok (.iload_n 1, 1) := by decide +kernel
theorem dX0_roast_6 : decode cX0_roast 6 = .ok (.aload_n 0, 1) := by decide +kernel
theorem dX0_roast_7 : decode cX0_roast 7 = .ok (.getfield 9, 3) := by decide +kernel
theorem dX0_roast_10 : decode cX0_roast 10 = .ok (.isub, 1) := by decide +kernel
theorem dX0_roast_11 : decode cX0_roast 11 = .ok (.bipush 20, 2) := by decide +kernel
theorem dX0_roast_13 : decode cX0_roast 13 = .ok (.invokestatic 49, 3) := by decide +kernel
theorem dX0_roast_16 : decode cX0_roast 16 = .ok (.iadd, 1) := by decide +kernel
theorem dX0_roast_17 : decode cX0_roast 17 = .ok (.putfield 9, 3) := by decide +kernel
theorem dX0_roast_20 : decode cX0_roast 20 = .ok (.aload_n 0, 1) := by decide +kernel
theorem dX0_roast_21 : decode cX0_roast 21 = .ok (.aload_n 0, 1) := by decide +kernel
theorem dX0_roast_22 : decode cX0_roast 22 = .ok (.getfield 38, 3) := by decide +kernel
theorem dX0_roast_25 : decode cX0_roast 25 = .ok (.aload_n 0, 1) := by decide +kernel
theorem dX0_roast_26 : decode cX0_roast 26 = .ok (.getfield 9, 3) := by decide +kernel
theorem dX0_roast_29 : decode cX0_roast 29 = .ok (.invokestatic 55, 3) := by decide +kernel
theorem dX0_roast_32 : decode cX0_roast 32 = .ok (.putfield 38, 3) := by decide +kernel
theorem dX0_roast_35 : decode cX0_roast 35 = .ok (.return_, 1) := by decide +kernel
theorem dX0_cool_0 : decode cX0_cool 0 = .ok (.aload_n 0, 1) := by decide +kernel
theorem dX0_cool_1 : decode cX0_cool 1 = .ok (.dup, 1) := by decide +kernel
theorem dX0_cool_2 : decode cX0_cool 2 = .ok (.getfield 9, 3) := by decide +kernel
theorem dX0_cool_5 : decode cX0_cool 5 = .ok (.aload_n 0, 1) := by decide +kernel
theorem dX0_cool_6 : decode cX0_cool 6 = .ok (.getfield 9, 3) := by decide +kernel
theorem dX0_cool_9 : decode cX0_cool 9 = .ok (.iload_n 1, 1) := by decide +kernel
theorem dX0_cool_10 : decode cX0_cool 10 = .ok (.isub, 1) := by decide +kernel
theorem dX0_cool_11 : decode cX0_cool 11 = .ok (.iload_n 2, 1) := by decide +kernel
theorem dX0_cool_12 : decode cX0_cool 12 = .ok (.imul, 1) := by decide +kernel
theorem dX0_cool_13 : decode cX0_cool 13 = .ok (.bipush 100, 2) := by decide +kernel
theorem dX0_cool_15 : decode cX0_cool 15 = .ok (.invokestatic 49, 3) := by decide +kernel
theorem dX0_cool_18 : decode cX0_cool 18 = .ok (.isub, 1) := by decide +kernel
theorem dX0_cool_19 : decode cX0_cool 19 = .ok (.putfield 9, 3) := by decide +kernel
theorem dX0_cool_22 : decode cX0_cool 22 = .ok (.return_, 1) := by decide +kernel
theorem dX0_pop_0 : decode cX0_pop 0 = .ok (.iconst 0, 1) := by decide +kernel
theorem dX0_pop_1 : decode cX0_pop 1 = .ok (.istore_n 2, 1) := by decide +kernel
theorem dX0_pop_2 : decode cX0_pop 2 = .ok (.aload_n 0, 1) := by decide +kernel
theorem dX0_pop_3 : decode cX0_pop 3 = .ok (.getfield 9, 3) := by decide +kernel
theorem dX0_pop_6 : decode cX0_pop 6 = .ok (.iload_n 1, 1) := by decide +kernel
theorem dX0_pop_7 : decode cX0_pop 7 = .ok (.if_icmp .lt 29, 3) := by decide +kernel
theorem dX0_pop_10 : decode cX0_pop 10 = .ok (.aload_n 0, 1) := by decide +kernel
theorem dX0_pop_11 : decode cX0_pop 11 = .ok (.getfield 9, 3) := by decide +kernel
theorem dX0_pop_14 : decode cX0_pop 14 = .ok (.iload_n 1, 1) := by decide +kernel
theorem dX0_pop_15 : decode cX0_pop 15 = .ok (.isub, 1) := by decide +kernel
theorem dX0_pop_16 : decode cX0_pop 16 = .ok (.iconst 2, 1) := by decide +kernel
theorem dX0_pop_17 : decode cX0_pop 17 = .ok (.invokestatic 49, 3) := by decide +kernel
theorem dX0_pop_20 : decode cX0_pop 20 = .ok (.iconst 1, 1) := by decide +kernel
theorem dX0_pop_21 : decode cX0_pop 21 = .ok (.iadd, 1) := by decide +kernel
theorem dX0_pop_22 : decode cX0_pop 22 = .ok (.istore_n 3, 1) := by decide +kernel
theorem dX0_pop_23 : decode cX0_pop 23 = .ok (.iload_n 3, 1) := by decide +kernel
theorem dX0_pop_24 : decode cX0_pop 24 = .ok (.sipush 1000, 3) := by decide +kernel
theorem dX0_pop_27 : decode cX0_pop 27 = .ok (.aload_n 0, 1) := by decide +kernel
theorem dX0_pop_28 : decode cX0_pop 28 = .ok (.getfield 24, 3) := by decide +kernel
theorem dX0_pop_31 : decode cX0_pop 31 = .ok (.isub, 1) := by decide +kernel
theorem dX0_pop_32 : decode cX0_pop 32 = .ok (.invokestatic 58, 3) := by decide +kernel
theorem dX0_pop_35 : decode cX0_pop 35 = .ok (.istore_n 2, 1) := by decide +kernel
theorem dX0_pop_36 : decode cX0_pop 36 = .ok (.aload_n 0, 1) := by decide +kernel
theorem dX0_pop_37 : decode cX0_pop 37 = .ok (.getfield 27, 3) := by decide +kernel
theorem dX0_pop_40 : decode cX0_pop 40 = .ok (.aload_n 0, 1) := by decide +kernel
theorem dX0_pop_41 : decode cX0_pop 41 = .ok (.getfield 18, 3) := by decide +kernel
theorem dX0_pop_44 : decode cX0_pop 44 = .ok (.bipush 6, 2) := by decide +kernel
theorem dX0_pop_46 : decode cX0_pop 46 = .ok (.invokestatic 61, 3) := by decide +kernel
theorem dX0_pop_49 : decode cX0_pop 49 = .ok (.iload_n 2, 1) := by decide +kernel
theorem dX0_pop_50 : decode cX0_pop 50 = .ok (.invokestatic 45, 3) := by decide +kernel
theorem dX0_pop_53 : decode cX0_pop 53 = .ok (.aload_n 0, 1) := by decide +kernel
theorem dX0_pop_54 : decode cX0_pop 54 = .ok (.dup, 1) := by decide +kernel
theorem dX0_pop_55 : decode cX0_pop 55 = .ok (.getfield 24, 3) := by decide +kernel
theorem dX0_pop_58 : decode cX0_pop 58 = .ok (.iload_n 2, 1) := by decide +kernel
theorem dX0_pop_59 : decode cX0_pop 59 = .ok (.iadd, 1) := by decide +kernel
theorem dX0_pop_60 : decode cX0_pop 60 = .ok (.putfield 24, 3) := by decide +kernel
theorem dX0_pop_63 : decode cX0_pop 63 = .ok (.return_, 1) := by decide +kernel
theorem dX0_lookForCrack_0 : decode cX0_lookForCrack 0 = .ok (.aload_n 0, 1) := by decide +kernel
theorem dX0_lookForCrack_1 : decode cX0_lookForCrack 1 = .ok (.invokevirtual 64, 3) := by decide +kernel
theorem dX0_lookForCrack_4 : decode cX0_lookForCrack 4 = .ok (.iload_n 1, 1) := by decide +kernel
theorem dX0_lookForCrack_5 : decode cX0_lookForCrack 5 = .ok (.if_icmp .lt 7, 3) := by decide +kernel
theorem dX0_lookForCrack_8 : decode cX0_lookForCrack 8 = .ok (.iconst 1, 1) := by decide +kernel
theorem dX0_lookForCrack_9 : decode cX0_lookForCrack 9 = .ok (.goto 4, 3) := by decide +kernel
theorem dX0_lookForCrack_12 : decode cX0_lookForCrack 12 = .ok (.iconst 0, 1) := by decide +kernel
theorem dX0_lookForCrack_13 : decode cX0_lookForCrack 13 = .ok (.istore_n 2, 1) := by decide +kernel
theorem dX0_lookForCrack_14 : decode cX0_lookForCrack 14 = .ok (.aload_n 0, 1) := by decide +kernel
theorem dX0_lookForCrack_15 : decode cX0_lookForCrack 15 = .ok (.getfield 32, 3) := by decide +kernel
theorem dX0_lookForCrack_18 : decode cX0_lookForCrack 18 = .ok (.ldc 31, 2) := by decide +kernel
theorem dX0_lookForCrack_20 : decode cX0_lookForCrack 20 = .ok (.if_icmp .ne 18, 3) := by decide +kernel
theorem dX0_lookForCrack_23 : decode cX0_lookForCrack 23 = .ok (.iload_n 2, 1) := by decide +kernel
theorem dX0_lookForCrack_24 : decode cX0_lookForCrack 24 = .ok (.ifCond .eq 14, 3) := by decide +kernel
theorem dX0_lookForCrack_27 : decode cX0_lookForCrack 27 = .ok (.aload_n 0, 1) := by decide +kernel
theorem dX0_lookForCrack_28 : decode cX0_lookForCrack 28 = .ok (.aload_n 0, 1) := by decide +kernel
theorem dX0_lookForCrack_29 : decode cX0_lookForCrack 29 = .ok (.getfield 18, 3) := by decide +kernel
theorem dX0_lookForCrack_32 : decode cX0_lookForCrack 32 = .ok (.putfield 32, 3) := by decide +kernel
theorem dX0_lookForCrack_35 : decode cX0_lookForCrack 35 = .ok (.goto 33, 3) := by decide +kernel
theorem dX0_lookForCrack_38 : decode cX0_lookForCrack 38 = .ok (.aload_n 0, 1) := by decide +kernel
theorem dX0_lookForCrack_39 : decode cX0_lookForCrack 39 = .ok (.getfield 32, 3) := by decide +kernel
theorem dX0_lookForCrack_42 : decode cX0_lookForCrack 42 = .ok (.ldc 31, 2) := by decide +kernel
theorem dX0_lookForCrack_44 : decode cX0_lookForCrack 44 = .ok (.if_icmp .eq 24, 3) := by decide +kernel
theorem dX0_lookForCrack_47 : decode cX0_lookForCrack 47 = .ok (.aload_n 0, 1) := by decide +kernel
theorem dX0_lookForCrack_48 : decode cX0_lookForCrack 48 = .ok (.getfield 35, 3) := by decide +kernel
theorem dX0_lookForCrack_51 : decode cX0_lookForCrack 51 = .ok (.ldc 31, 2) := by decide +kernel
theorem dX0_lookForCrack_53 : decode cX0_lookForCrack 53 = .ok (.if_icmp .ne 15, 3) := by decide +kernel
theorem dX0_lookForCrack_56 : decode cX0_lookForCrack 56 = .ok (.iload_n 2, 1) := by decide +kernel
theorem dX0_lookForCrack_57 : decode cX0_lookForCrack 57 = .ok (.ifCond .ne 11, 3) := by decide +kernel
theorem dX0_lookForCrack_60 : decode cX0_lookForCrack 60 = .ok (.aload_n 0, 1) := by decide +kernel
theorem dX0_lookForCrack_61 : decode cX0_lookForCrack 61 = .ok (.aload_n 0, 1) := by decide +kernel
theorem dX0_lookForCrack_62 : decode cX0_lookForCrack 62 = .ok (.getfield 18, 3) := by decide +kernel
theorem dX0_lookForCrack_65 : decode cX0_lookForCrack 65 = .ok (.putfield 35, 3) := by decide +kernel
theorem dX0_lookForCrack_68 : decode cX0_lookForCrack 68 = .ok (.return_, 1) := by decide +kernel
theorem dX0_window_0 : decode cX0_window 0 = .ok (.iconst 0, 1) := by decide +kernel
theorem dX0_window_1 : decode cX0_window 1 = .ok (.istore_n 1, 1) := by decide +kernel
theorem dX0_window_2 : decode cX0_window 2 = .ok (.iconst 0, 1) := by decide +kernel
theorem dX0_window_3 : decode cX0_window 3 = .ok (.istore_n 2, 1) := by decide +kernel
theorem dX0_window_4 : decode cX0_window 4 = .ok (.iload_n 2, 1) := by decide +kernel
theorem dX0_window_5 : decode cX0_window 5 = .ok (.bipush 6, 2) := by decide +kernel
theorem dX0_window_7 : decode cX0_window 7 = .ok (.if_icmp .ge 20, 3) := by decide +kernel
theorem dX0_window_10 : decode cX0_window 10 = .ok (.iload_n 1, 1) := by decide +kernel
theorem dX0_window_11 : decode cX0_window 11 = .ok (.aload_n 0, 1) := by decide +kernel
theorem dX0_window_12 : decode cX0_window 12 = .ok (.getfield 27, 3) := by decide +kernel
theorem dX0_window_15 : decode cX0_window 15 = .ok (.iload_n 2, 1) := by decide +kernel
theorem dX0_window_16 : decode cX0_window 16 = .ok (.invokestatic 68, 3) := by decide +kernel
theorem dX0_window_19 : decode cX0_window 19 = .ok (.iadd, 1) := by decide +kernel
theorem dX0_window_20 : decode cX0_window 20 = .ok (.istore_n 1, 1) := by decide +kernel
theorem dX0_window_21 : decode cX0_window 21 = .ok (.iinc 2 1, 3) := by decide +kernel
theorem dX0_window_24 : decode cX0_window 24 = .ok (.goto (-20), 3) := by decide +kernel
theorem dX0_window_27 : decode cX0_window 27 = .ok (.iload_n 1, 1) := by decide +kernel
theorem dX0_window_28 : decode cX0_window 28 = .ok (.ireturn, 1) := by decide +kernel
theorem dX0_number_0 : decode cX0_number 0 = .ok (.iload_n 1, 1) := by decide +kernel
theorem dX0_number_1 : decode cX0_number 1 = .ok (.tableswitch 117 0 9 #[55, 60, 65, 70, 75, 80, 97, 102, 107, 112], 55) := by decide +kernel
theorem dX0_number_56 : decode cX0_number 56 = .ok (.aload_n 0, 1) := by decide +kernel
theorem dX0_number_57 : decode cX0_number 57 = .ok (.getfield 9, 3) := by decide +kernel
theorem dX0_number_60 : decode cX0_number 60 = .ok (.ireturn, 1) := by decide +kernel
theorem dX0_number_61 : decode cX0_number 61 = .ok (.aload_n 0, 1) := by decide +kernel
theorem dX0_number_62 : decode cX0_number 62 = .ok (.getfield 15, 3) := by decide +kernel
theorem dX0_number_65 : decode cX0_number 65 = .ok (.ireturn, 1) := by decide +kernel
theorem dX0_number_66 : decode cX0_number 66 = .ok (.aload_n 0, 1) := by decide +kernel
theorem dX0_number_67 : decode cX0_number 67 = .ok (.getfield 18, 3) := by decide +kernel
theorem dX0_number_70 : decode cX0_number 70 = .ok (.ireturn, 1) := by decide +kernel
theorem dX0_number_71 : decode cX0_number 71 = .ok (.aload_n 0, 1) := by decide +kernel
theorem dX0_number_72 : decode cX0_number 72 = .ok (.getfield 21, 3) := by decide +kernel
theorem dX0_number_75 : decode cX0_number 75 = .ok (.ireturn, 1) := by decide +kernel
theorem dX0_number_76 : decode cX0_number 76 = .ok (.aload_n 0, 1) := by decide +kernel
theorem dX0_number_77 : decode cX0_number 77 = .ok (.getfield 24, 3) := by decide +kernel
theorem dX0_number_80 : decode cX0_number 80 = .ok (.ireturn, 1) := by decide +kernel
theorem dX0_number_81 : decode cX0_number 81 = .ok (.aload_n 0, 1) := by decide +kernel
theorem dX0_number_82 : decode cX0_number 82 = .ok (.getfield 27, 3) := by decide +kernel
theorem dX0_number_85 : decode cX0_number 85 = .ok (.aload_n 0, 1) := by decide +kernel
theorem dX0_number_86 : decode cX0_number 86 = .ok (.getfield 18, 3) := by decide +kernel
theorem dX0_number_89 : decode cX0_number 89 = .ok (.bipush 6, 2) := by decide +kernel
theorem dX0_number_91 : decode cX0_number 91 = .ok (.invokestatic 61, 3) := by decide +kernel
theorem dX0_number_94 : decode cX0_number 94 = .ok (.invokestatic 68, 3) := by decide +kernel
theorem dX0_number_97 : decode cX0_number 97 = .ok (.ireturn, 1) := by decide +kernel
theorem dX0_number_98 : decode cX0_number 98 = .ok (.aload_n 0, 1) := by decide +kernel
theorem dX0_number_99 : decode cX0_number 99 = .ok (.invokevirtual 64, 3) := by decide +kernel
theorem dX0_number_102 : decode cX0_number 102 = .ok (.ireturn, 1) := by decide +kernel
theorem dX0_number_103 : decode cX0_number 103 = .ok (.aload_n 0, 1) := by decide +kernel
theorem dX0_number_104 : decode cX0_number 104 = .ok (.getfield 32, 3) := by decide +kernel
theorem dX0_number_107 : decode cX0_number 107 = .ok (.ireturn, 1) := by decide +kernel
theorem dX0_number_108 : decode cX0_number 108 = .ok (.aload_n 0, 1) := by decide +kernel
theorem dX0_number_109 : decode cX0_number 109 = .ok (.getfield 35, 3) := by decide +kernel
theorem dX0_number_112 : decode cX0_number 112 = .ok (.ireturn, 1) := by decide +kernel
theorem dX0_number_113 : decode cX0_number 113 = .ok (.aload_n 0, 1) := by decide +kernel
theorem dX0_number_114 : decode cX0_number 114 = .ok (.getfield 38, 3) := by decide +kernel
theorem dX0_number_117 : decode cX0_number 117 = .ok (.ireturn, 1) := by decide +kernel
theorem dX0_number_118 : decode cX0_number 118 = .ok (.ldc 72, 2) := by decide +kernel
theorem dX0_number_120 : decode cX0_number 120 = .ok (.ireturn, 1) := by decide +kernel
theorem dX1_init_0 : decode cX1_init 0 = .ok (.aload_n 0, 1) := by decide +kernel
theorem dX1_init_1 : decode cX1_init 1 = .ok (.invokespecial 3, 3) := by decide +kernel
theorem dX1_init_4 : decode cX1_init 4 = .ok (.aload_n 0, 1) := by decide +kernel
theorem dX1_init_5 : decode cX1_init 5 = .ok (.iconst 5, 1) := by decide +kernel
theorem dX1_init_6 : decode cX1_init 6 = .ok (.anewarray 9, 3) := by decide +kernel
theorem dX1_init_9 : decode cX1_init 9 = .ok (.putfield 11, 3) := by decide +kernel
theorem dX1_init_12 : decode cX1_init 12 = .ok (.aload_n 0, 1) := by decide +kernel
theorem dX1_init_13 : decode cX1_init 13 = .ok (.iconst 0, 1) := by decide +kernel
theorem dX1_init_14 : decode cX1_init 14 = .ok (.putfield 17, 3) := by decide +kernel
theorem dX1_init_17 : decode cX1_init 17 = .ok (.aload_n 0, 1) := by decide +kernel
theorem dX1_init_18 : decode cX1_init 18 = .ok (.iconst 0, 1) := by decide +kernel
theorem dX1_init_19 : decode cX1_init 19 = .ok (.putfield 21, 3) := by decide +kernel
theorem dX1_init_22 : decode cX1_init 22 = .ok (.iconst 0, 1) := by decide +kernel
theorem dX1_init_23 : decode cX1_init 23 = .ok (.istore_n 1, 1) := by decide +kernel
theorem dX1_init_24 : decode cX1_init 24 = .ok (.iload_n 1, 1) := by decide +kernel
theorem dX1_init_25 : decode cX1_init 25 = .ok (.aload_n 0, 1) := by decide +kernel
theorem dX1_init_26 : decode cX1_init 26 = .ok (.getfield 11, 3) := by decide +kernel
theorem dX1_init_29 : decode cX1_init 29 = .ok (.arraylength, 1) := by decide +kernel
theorem dX1_init_30 : decode cX1_init 30 = .ok (.if_icmp .ge 22, 3) := by decide +kernel
theorem dX1_init_33 : decode cX1_init 33 = .ok (.aload_n 0, 1) := by decide +kernel
theorem dX1_init_34 : decode cX1_init 34 = .ok (.getfield 11, 3) := by decide +kernel
theorem dX1_init_37 : decode cX1_init 37 = .ok (.iload_n 1, 1) := by decide +kernel
theorem dX1_init_38 : decode cX1_init 38 = .ok (.new 9, 3) := by decide +kernel
theorem dX1_init_41 : decode cX1_init 41 = .ok (.dup, 1) := by decide +kernel
theorem dX1_init_42 : decode cX1_init 42 = .ok (.invokespecial 24, 3) := by decide +kernel
theorem dX1_init_45 : decode cX1_init 45 = .ok (.aastore, 1) := by decide +kernel
theorem dX1_init_46 : decode cX1_init 46 = .ok (.iinc 1 1, 3) := by decide +kernel
theorem dX1_init_49 : decode cX1_init 49 = .ok (.goto (-25), 3) := by decide +kernel
theorem dX1_init_52 : decode cX1_init 52 = .ok (.return_, 1) := by decide +kernel
theorem dX1_remember_0 : decode cX1_remember 0 = .ok (.aload_n 0, 1) := by decide +kernel
theorem dX1_remember_1 : decode cX1_remember 1 = .ok (.getfield 21, 3) := by decide +kernel
theorem dX1_remember_4 : decode cX1_remember 4 = .ok (.iconst 5, 1) := by decide +kernel
theorem dX1_remember_5 : decode cX1_remember 5 = .ok (.if_icmp .ne 23, 3) := by decide +kernel
theorem dX1_remember_8 : decode cX1_remember 8 = .ok (.aload_n 0, 1) := by decide +kernel
theorem dX1_remember_9 : decode cX1_remember 9 = .ok (.dup, 1) := by decide +kernel
theorem dX1_remember_10 : decode cX1_remember 10 = .ok (.getfield 17, 3) := by decide +kernel
theorem dX1_remember_13 : decode cX1_remember 13 = .ok (.iconst 1, 1) := by decide +kernel
theorem dX1_remember_14 : decode cX1_remember 14 = .ok (.iadd, 1) := by decide +kernel
theorem dX1_remember_15 : decode cX1_remember 15 = .ok (.putfield 17, 3) := by decide +kernel
theorem dX1_remember_18 : decode cX1_remember 18 = .ok (.aload_n 0, 1) := by decide +kernel
theorem dX1_remember_19 : decode cX1_remember 19 = .ok (.dup, 1) := by decide +kernel
theorem dX1_remember_20 : decode cX1_remember 20 = .ok (.getfield 21, 3) := by decide +kernel
theorem dX1_remember_23 : decode cX1_remember 23 = .ok (.iconst 1, 1) := by decide +kernel
theorem dX1_remember_24 : decode cX1_remember 24 = .ok (.isub, 1) := by decide +kernel
theorem dX1_remember_25 : decode cX1_remember 25 = .ok (.putfield 21, 3) := by decide +kernel
theorem dX1_remember_28 : decode cX1_remember 28 = .ok (.aload_n 0, 1) := by decide +kernel
theorem dX1_remember_29 : decode cX1_remember 29 = .ok (.aload_n 0, 1) := by decide +kernel
theorem dX1_remember_30 : decode cX1_remember 30 = .ok (.getfield 21, 3) := by decide +kernel
theorem dX1_remember_33 : decode cX1_remember 33 = .ok (.invokevirtual 25, 3) := by decide +kernel
theorem dX1_remember_36 : decode cX1_remember 36 = .ok (.astore_n 2, 1) := by decide +kernel
theorem dX1_remember_37 : decode cX1_remember 37 = .ok (.aload_n 2, 1) := by decide +kernel
theorem dX1_remember_38 : decode cX1_remember 38 = .ok (.ifnull 18, 3) := by decide +kernel
theorem dX1_remember_41 : decode cX1_remember 41 = .ok (.aload_n 2, 1) := by decide +kernel
theorem dX1_remember_42 : decode cX1_remember 42 = .ok (.aload_n 1, 1) := by decide +kernel
theorem dX1_remember_43 : decode cX1_remember 43 = .ok (.invokevirtual 29, 3) := by decide +kernel
theorem dX1_remember_46 : decode cX1_remember 46 = .ok (.aload_n 0, 1) := by decide +kernel
theorem dX1_remember_47 : decode cX1_remember 47 = .ok (.dup, 1) := by decide +kernel
theorem dX1_remember_48 : decode cX1_remember 48 = .ok (.getfield 21, 3) := by decide +kernel
theorem dX1_remember_51 : decode cX1_remember 51 = .ok (.iconst 1, 1) := by decide +kernel
theorem dX1_remember_52 : decode cX1_remember 52 = .ok (.iadd, 1) := by decide +kernel
theorem dX1_remember_53 : decode cX1_remember 53 = .ok (.putfield 21, 3) := by decide +kernel
theorem dX1_remember_56 : decode cX1_remember 56 = .ok (.return_, 1) := by decide +kernel
theorem dX1_restore_0 : decode cX1_restore 0 = .ok (.aload_n 0, 1) := by decide +kernel
theorem dX1_restore_1 : decode cX1_restore 1 = .ok (.aload_n 0, 1) := by decide +kernel
theorem dX1_restore_2 : decode cX1_restore 2 = .ok (.getfield 21, 3) := by decide +kernel
theorem dX1_restore_5 : decode cX1_restore 5 = .ok (.iconst 1, 1) := by decide +kernel
theorem dX1_restore_6 : decode cX1_restore 6 = .ok (.isub, 1) := by decide +kernel
theorem dX1_restore_7 : decode cX1_restore 7 = .ok (.invokevirtual 25, 3) := by decide +kernel
theorem dX1_restore_10 : decode cX1_restore 10 = .ok (.astore_n 2, 1) := by decide +kernel
theorem dX1_restore_11 : decode cX1_restore 11 = .ok (.aload_n 2, 1) := by decide +kernel
theorem dX1_restore_12 : decode cX1_restore 12 = .ok (.ifnull 18, 3) := by decide +kernel
theorem dX1_restore_15 : decode cX1_restore 15 = .ok (.aload_n 1, 1) := by decide +kernel
theorem dX1_restore_16 : decode cX1_restore 16 = .ok (.aload_n 2, 1) := by decide +kernel
theorem dX1_restore_17 : decode cX1_restore 17 = .ok (.invokevirtual 29, 3) := by decide +kernel
theorem dX1_restore_20 : decode cX1_restore 20 = .ok (.aload_n 0, 1) := by decide +kernel
theorem dX1_restore_21 : decode cX1_restore 21 = .ok (.dup, 1) := by decide +kernel
theorem dX1_restore_22 : decode cX1_restore 22 = .ok (.getfield 21, 3) := by decide +kernel
theorem dX1_restore_25 : decode cX1_restore 25 = .ok (.iconst 1, 1) := by decide +kernel
theorem dX1_restore_26 : decode cX1_restore 26 = .ok (.isub, 1) := by decide +kernel
theorem dX1_restore_27 : decode cX1_restore 27 = .ok (.putfield 21, 3) := by decide +kernel
theorem dX1_restore_30 : decode cX1_restore 30 = .ok (.return_, 1) := by decide +kernel
theorem dX1_slot_0 : decode cX1_slot 0 = .ok (.aload_n 0, 1) := by decide +kernel
theorem dX1_slot_1 : decode cX1_slot 1 = .ok (.getfield 17, 3) := by decide +kernel
theorem dX1_slot_4 : decode cX1_slot 4 = .ok (.iload_n 1, 1) := by decide +kernel
theorem dX1_slot_5 : decode cX1_slot 5 = .ok (.iadd, 1) := by decide +kernel
theorem dX1_slot_6 : decode cX1_slot 6 = .ok (.iconst 5, 1) := by decide +kernel
theorem dX1_slot_7 : decode cX1_slot 7 = .ok (.invokestatic 33, 3) := by decide +kernel
theorem dX1_slot_10 : decode cX1_slot 10 = .ok (.istore_n 2, 1) := by decide +kernel
theorem dX1_slot_11 : decode cX1_slot 11 = .ok (.iload_n 2, 1) := by decide +kernel
theorem dX1_slot_12 : decode cX1_slot 12 = .ok (.ifCond .lt 21, 3) := by decide +kernel
theorem dX1_slot_15 : decode cX1_slot 15 = .ok (.iload_n 2, 1) := by decide +kernel
theorem dX1_slot_16 : decode cX1_slot 16 = .ok (.aload_n 0, 1) := by decide +kernel
theorem dX1_slot_17 : decode cX1_slot 17 = .ok (.getfield 11, 3) := by decide +kernel
theorem dX1_slot_20 : decode cX1_slot 20 = .ok (.arraylength, 1) := by decide +kernel
theorem dX1_slot_21 : decode cX1_slot 21 = .ok (.if_icmp .ge 12, 3) := by decide +kernel
theorem dX1_slot_24 : decode cX1_slot 24 = .ok (.aload_n 0, 1) := by decide +kernel
theorem dX1_slot_25 : decode cX1_slot 25 = .ok (.getfield 11, 3) := by decide +kernel
theorem dX1_slot_28 : decode cX1_slot 28 = .ok (.iload_n 2, 1) := by decide +kernel
theorem dX1_slot_29 : decode cX1_slot 29 = .ok (.aaload, 1) := by decide +kernel
theorem dX1_slot_30 : decode cX1_slot 30 = .ok (.goto 4, 3) := by decide +kernel
theorem dX1_slot_33 : decode cX1_slot 33 = .ok (.aconst_null, 1) := by decide +kernel
theorem dX1_slot_34 : decode cX1_slot 34 = .ok (.areturn, 1) := by decide +kernel
theorem dX2_init_0 : decode cX2_init 0 = .ok (.aload_n 0, 1) := by decide +kernel
theorem dX2_init_1 : decode cX2_init 1 = .ok (.invokespecial 3, 3) := by decide +kernel
theorem dX2_init_4 : decode cX2_init 4 = .ok (.aload_n 0, 1) := by decide +kernel
theorem dX2_init_5 : decode cX2_init 5 = .ok (.bipush 48, 2) := by decide +kernel
theorem dX2_init_7 : decode cX2_init 7 = .ok (.newarray .int, 2) := by decide +kernel
theorem dX2_init_9 : decode cX2_init 9 = .ok (.putfield 9, 3) := by decide +kernel
theorem dX2_init_12 : decode cX2_init 12 = .ok (.aload_n 0, 1) := by decide +kernel
theorem dX2_init_13 : decode cX2_init 13 = .ok (.iconst 0, 1) := by decide +kernel
theorem dX2_init_14 : decode cX2_init 14 = .ok (.putfield 15, 3) := by decide +kernel
theorem dX2_init_17 : decode cX2_init 17 = .ok (.aload_n 0, 1) := by decide +kernel
theorem dX2_init_18 : decode cX2_init 18 = .ok (.iconst 0, 1) := by decide +kernel
theorem dX2_init_19 : decode cX2_init 19 = .ok (.putfield 19, 3) := by decide +kernel
theorem dX2_init_22 : decode cX2_init 22 = .ok (.return_, 1) := by decide +kernel
theorem dX2_copyFrom_0 : decode cX2_copyFrom 0 = .ok (.aload_n 1, 1) := by decide +kernel
theorem dX2_copyFrom_1 : decode cX2_copyFrom 1 = .ok (.getfield 9, 3) := by decide +kernel
theorem dX2_copyFrom_4 : decode cX2_copyFrom 4 = .ok (.aload_n 0, 1) := by decide +kernel
theorem dX2_copyFrom_5 : decode cX2_copyFrom 5 = .ok (.getfield 9, 3) := by decide +kernel
theorem dX2_copyFrom_8 : decode cX2_copyFrom 8 = .ok (.invokestatic 22, 3) := by decide +kernel
theorem dX2_copyFrom_11 : decode cX2_copyFrom 11 = .ok (.aload_n 0, 1) := by decide +kernel
theorem dX2_copyFrom_12 : decode cX2_copyFrom 12 = .ok (.aload_n 1, 1) := by decide +kernel
theorem dX2_copyFrom_13 : decode cX2_copyFrom 13 = .ok (.getfield 15, 3) := by decide +kernel
theorem dX2_copyFrom_16 : decode cX2_copyFrom 16 = .ok (.putfield 15, 3) := by decide +kernel
theorem dX2_copyFrom_19 : decode cX2_copyFrom 19 = .ok (.aload_n 0, 1) := by decide +kernel
theorem dX2_copyFrom_20 : decode cX2_copyFrom 20 = .ok (.aload_n 1, 1) := by decide +kernel
theorem dX2_copyFrom_21 : decode cX2_copyFrom 21 = .ok (.getfield 19, 3) := by decide +kernel
theorem dX2_copyFrom_24 : decode cX2_copyFrom 24 = .ok (.putfield 19, 3) := by decide +kernel
theorem dX2_copyFrom_27 : decode cX2_copyFrom 27 = .ok (.return_, 1) := by decide +kernel
theorem dX2_enter_0 : decode cX2_enter 0 = .ok (.aload_n 0, 1) := by decide +kernel
theorem dX2_enter_1 : decode cX2_enter 1 = .ok (.getfield 9, 3) := by decide +kernel
theorem dX2_enter_4 : decode cX2_enter 4 = .ok (.arraylength, 1) := by decide +kernel
theorem dX2_enter_5 : decode cX2_enter 5 = .ok (.iconst 1, 1) := by decide +kernel
theorem dX2_enter_6 : decode cX2_enter 6 = .ok (.isub, 1) := by decide +kernel
theorem dX2_enter_7 : decode cX2_enter 7 = .ok (.istore_n 2, 1) := by decide +kernel
theorem dX2_enter_8 : decode cX2_enter 8 = .ok (.iload_n 2, 1) := by decide +kernel
theorem dX2_enter_9 : decode cX2_enter 9 = .ok (.bipush 6, 2) := by decide +kernel
theorem dX2_enter_11 : decode cX2_enter 11 = .ok (.if_icmp .lt 28, 3) := by decide +kernel
theorem dX2_enter_14 : decode cX2_enter 14 = .ok (.aload_n 0, 1) := by decide +kernel
theorem dX2_enter_15 : decode cX2_enter 15 = .ok (.getfield 9, 3) := by decide +kernel
theorem dX2_enter_18 : decode cX2_enter 18 = .ok (.iload_n 2, 1) := by decide +kernel
theorem dX2_enter_19 : decode cX2_enter 19 = .ok (.aload_n 0, 1) := by decide +kernel
theorem dX2_enter_20 : decode cX2_enter 20 = .ok (.getfield 9, 3) := by decide +kernel
theorem dX2_enter_23 : decode cX2_enter 23 = .ok (.iload_n 2, 1) := by decide +kernel
theorem dX2_enter_24 : decode cX2_enter 24 = .ok (.bipush 6, 2) := by decide +kernel
theorem dX2_enter_26 : decode cX2_enter 26 = .ok (.isub, 1) := by decide +kernel
theorem dX2_enter_27 : decode cX2_enter 27 = .ok (.invokestatic 26, 3) := by decide +kernel
theorem dX2_enter_30 : decode cX2_enter 30 = .ok (.invokestatic 30, 3) := by decide +kernel
theorem dX2_enter_33 : decode cX2_enter 33 = .ok (.iinc 2 (-1), 3) := by decide +kernel
theorem dX2_enter_36 : decode cX2_enter 36 = .ok (.goto (-28), 3) := by decide +kernel
theorem dX2_enter_39 : decode cX2_enter 39 = .ok (.aload_n 0, 1) := by decide +kernel
theorem dX2_enter_40 : decode cX2_enter 40 = .ok (.dup, 1) := by decide +kernel
theorem dX2_enter_41 : decode cX2_enter 41 = .ok (.getfield 19, 3) := by decide +kernel
theorem dX2_enter_44 : decode cX2_enter 44 = .ok (.iconst 1, 1) := by decide +kernel
theorem dX2_enter_45 : decode cX2_enter 45 = .ok (.iadd, 1) := by decide +kernel
theorem dX2_enter_46 : decode cX2_enter 46 = .ok (.putfield 19, 3) := by decide +kernel
theorem dX2_enter_49 : decode cX2_enter 49 = .ok (.aload_n 0, 1) := by decide +kernel
theorem dX2_enter_50 : decode cX2_enter 50 = .ok (.aload_n 0, 1) := by decide +kernel
theorem dX2_enter_51 : decode cX2_enter 51 = .ok (.getfield 15, 3) := by decide +kernel
theorem dX2_enter_54 : decode cX2_enter 54 = .ok (.iconst 1, 1) := by decide +kernel
theorem dX2_enter_55 : decode cX2_enter 55 = .ok (.iadd, 1) := by decide +kernel
theorem dX2_enter_56 : decode cX2_enter 56 = .ok (.bipush 8, 2) := by decide +kernel
theorem dX2_enter_58 : decode cX2_enter 58 = .ok (.invokestatic 34, 3) := by decide +kernel
theorem dX2_enter_61 : decode cX2_enter 61 = .ok (.putfield 15, 3) := by decide +kernel
theorem dX2_enter_64 : decode cX2_enter 64 = .ok (.aload_n 0, 1) := by decide +kernel
theorem dX2_enter_65 : decode cX2_enter 65 = .ok (.getfield 9, 3) := by decide +kernel
theorem dX2_enter_68 : decode cX2_enter 68 = .ok (.iconst 0, 1) := by decide +kernel
theorem dX2_enter_69 : decode cX2_enter 69 = .ok (.aload_n 0, 1) := by decide +kernel
theorem dX2_enter_70 : decode cX2_enter 70 = .ok (.getfield 19, 3) := by decide +kernel
theorem dX2_enter_73 : decode cX2_enter 73 = .ok (.invokestatic 30, 3) := by decide +kernel
theorem dX2_enter_76 : decode cX2_enter 76 = .ok (.aload_n 0, 1) := by decide +kernel
theorem dX2_enter_77 : decode cX2_enter 77 = .ok (.getfield 9, 3) := by decide +kernel
theorem dX2_enter_80 : decode cX2_enter 80 = .ok (.iconst 1, 1) := by decide +kernel
theorem dX2_enter_81 : decode cX2_enter 81 = .ok (.aload_n 1, 1) := by decide +kernel
theorem dX2_enter_82 : decode cX2_enter 82 = .ok (.getfield 40, 3) := by decide +kernel
theorem dX2_enter_85 : decode cX2_enter 85 = .ok (.invokestatic 30, 3) := by decide +kernel
theorem dX2_enter_88 : decode cX2_enter 88 = .ok (.aload_n 0, 1) := by decide +kernel
theorem dX2_enter_89 : decode cX2_enter 89 = .ok (.getfield 9, 3) := by decide +kernel
theorem dX2_enter_92 : decode cX2_enter 92 = .ok (.iconst 2, 1) := by decide +kernel
theorem dX2_enter_93 : decode cX2_enter 93 = .ok (.aload_n 1, 1) := by decide +kernel
theorem dX2_enter_94 : decode cX2_enter 94 = .ok (.getfield 45, 3) := by decide +kernel
theorem dX2_enter_97 : decode cX2_enter 97 = .ok (.invokestatic 30, 3) := by decide +kernel
theorem dX2_enter_100 : decode cX2_enter 100 = .ok (.aload_n 0, 1) := by decide +kernel
theorem dX2_enter_101 : decode cX2_enter 101 = .ok (.getfield 9, 3) := by decide +kernel
theorem dX2_enter_104 : decode cX2_enter 104 = .ok (.iconst 3, 1) := by decide +kernel
theorem dX2_enter_105 : decode cX2_enter 105 = .ok (.aload_n 1, 1) := by decide +kernel
theorem dX2_enter_106 : decode cX2_enter 106 = .ok (.getfield 48, 3) := by decide +kernel
theorem dX2_enter_109 : decode cX2_enter 109 = .ok (.invokestatic 30, 3) := by decide +kernel
theorem dX2_enter_112 : decode cX2_enter 112 = .ok (.aload_n 0, 1) := by decide +kernel
theorem dX2_enter_113 : decode cX2_enter 113 = .ok (.getfield 9, 3) := by decide +kernel
theorem dX2_enter_116 : decode cX2_enter 116 = .ok (.iconst 4, 1) := by decide +kernel
theorem dX2_enter_117 : decode cX2_enter 117 = .ok (.aload_n 1, 1) := by decide +kernel
theorem dX2_enter_118 : decode cX2_enter 118 = .ok (.getfield 51, 3) := by decide +kernel
theorem dX2_enter_121 : decode cX2_enter 121 = .ok (.invokestatic 30, 3) := by decide +kernel
theorem dX2_enter_124 : decode cX2_enter 124 = .ok (.aload_n 0, 1) := by decide +kernel
theorem dX2_enter_125 : decode cX2_enter 125 = .ok (.getfield 9, 3) := by decide +kernel
theorem dX2_enter_128 : decode cX2_enter 128 = .ok (.iconst 5, 1) := by decide +kernel
theorem dX2_enter_129 : decode cX2_enter 129 = .ok (.aload_n 1, 1) := by decide +kernel
theorem dX2_enter_130 : decode cX2_enter 130 = .ok (.getfield 54, 3) := by decide +kernel
theorem dX2_enter_133 : decode cX2_enter 133 = .ok (.invokestatic 30, 3) := by decide +kernel
theorem dX2_enter_136 : decode cX2_enter 136 = .ok (.return_, 1) := by decide +kernel
theorem dX2_property_0 : decode cX2_property 0 = .ok (.aload_n 0, 1) := by decide +kernel
theorem dX2_property_1 : decode cX2_property 1 = .ok (.getfield 9, 3) := by decide +kernel
theorem dX2_property_4 : decode cX2_property 4 = .ok (.iload_n 1, 1) := by decide +kernel
theorem dX2_property_5 : decode cX2_property 5 = .ok (.bipush 6, 2) := by decide +kernel
theorem dX2_property_7 : decode cX2_property 7 = .ok (.imul, 1) := by decide +kernel
theorem dX2_property_8 : decode cX2_property 8 = .ok (.iload_n 2, 1) := by decide +kernel
theorem dX2_property_9 : decode cX2_property 9 = .ok (.iadd, 1) := by decide +kernel
theorem dX2_property_10 : decode cX2_property 10 = .ok (.invokestatic 26, 3) := by decide +kernel
theorem dX2_property_13 : decode cX2_property 13 = .ok (.ireturn, 1) := by decide +kernel
theorem dX2_slope_0 : decode cX2_slope 0 = .ok (.lconst 0, 1) := by decide +kernel
theorem dX2_slope_1 : decode cX2_slope 1 = .ok (.lstore_n 2, 1) := by decide +kernel
theorem dX2_slope_2 : decode cX2_slope 2 = .ok (.lconst 0, 1) := by decide +kernel
theorem dX2_slope_3 : decode cX2_slope 3 = .ok (.lstore 4, 2) := by decide +kernel
theorem dX2_slope_5 : decode cX2_slope 5 = .ok (.lconst 0, 1) := by decide +kernel
theorem dX2_slope_6 : decode cX2_slope 6 = .ok (.lstore 6, 2) := by decide +kernel
theorem dX2_slope_8 : decode cX2_slope 8 = .ok (.lconst 0, 1) := by decide +kernel
theorem dX2_slope_9 : decode cX2_slope 9 = .ok (.lstore 8, 2) := by decide +kernel
theorem dX2_slope_11 : decode cX2_slope 11 = .ok (.lconst 0, 1) := by decide +kernel
theorem dX2_slope_12 : decode cX2_slope 12 = .ok (.lstore 10, 2) := by decide +kernel
theorem dX2_slope_14 : decode cX2_slope 14 = .ok (.iconst 0, 1) := by decide +kernel
theorem dX2_slope_15 : decode cX2_slope 15 = .ok (.istore 12, 2) := by decide +kernel
theorem dX2_slope_17 : decode cX2_slope 17 = .ok (.iload 12, 2) := by decide +kernel
theorem dX2_slope_19 : decode cX2_slope 19 = .ok (.bipush 8, 2) := by decide +kernel
theorem dX2_slope_21 : decode cX2_slope 21 = .ok (.if_icmp .ge 85, 3) := by decide +kernel
theorem dX2_slope_24 : decode cX2_slope 24 = .ok (.iload 12, 2) := by decide +kernel
theorem dX2_slope_26 : decode cX2_slope 26 = .ok (.aload_n 0, 1) := by decide +kernel
theorem dX2_slope_27 : decode cX2_slope 27 = .ok (.getfield 15, 3) := by decide +kernel
theorem dX2_slope_30 : decode cX2_slope 30 = .ok (.if_icmp .ge 76, 3) := by decide +kernel
theorem dX2_slope_33 : decode cX2_slope 33 = .ok (.aload_n 0, 1) := by decide +kernel
theorem dX2_slope_34 : decode cX2_slope 34 = .ok (.iload 12, 2) := by decide +kernel
theorem dX2_slope_36 : decode cX2_slope 36 = .ok (.iconst 0, 1) := by decide +kernel
theorem dX2_slope_37 : decode cX2_slope 37 = .ok (.invokevirtual 57, 3) := by decide +kernel
theorem dX2_slope_40 : decode cX2_slope 40 = .ok (.i2l, 1) := by decide +kernel
theorem dX2_slope_41 : decode cX2_slope 41 = .ok (.lstore 13, 2) := by decide +kernel
theorem dX2_slope_43 : decode cX2_slope 43 = .ok (.aload_n 0, 1) := by decide +kernel
theorem dX2_slope_44 : decode cX2_slope 44 = .ok (.iload 12, 2) := by decide +kernel
theorem dX2_slope_46 : decode cX2_slope 46 = .ok (.iload_n 1, 1) := by decide +kernel
theorem dX2_slope_47 : decode cX2_slope 47 = .ok (.invokevirtual 57, 3) := by decide +kernel
theorem dX2_slope_50 : decode cX2_slope 50 = .ok (.i2l, 1) := by decide +kernel
theorem dX2_slope_51 : decode cX2_slope 51 = .ok (.lstore 15, 2) := by decide +kernel
theorem dX2_slope_53 : decode cX2_slope 53 = .ok (.lload 15, 2) := by decide +kernel
theorem dX2_slope_55 : decode cX2_slope 55 = .ok (.ldc2_w 60, 3) := by decide +kernel
theorem dX2_slope_58 : decode cX2_slope 58 = .ok (.lcmp, 1) := by decide +kernel
theorem dX2_slope_59 : decode cX2_slope 59 = .ok (.ifCond .eq 41, 3) := by decide +kernel
theorem dX2_slope_62 : decode cX2_slope 62 = .ok (.lload_n 2, 1) := by decide +kernel
theorem dX2_slope_63 : decode cX2_slope 63 = .ok (.lconst 1, 1) := by decide +kernel
theorem dX2_slope_64 : decode cX2_slope 64 = .ok (.ladd, 1) := by decide +kernel
theorem dX2_slope_65 : decode cX2_slope 65 = .ok (.lstore_n 2, 1) := by decide +kernel
theorem dX2_slope_66 : decode cX2_slope 66 = .ok (.lload 4, 2) := by decide +kernel
theorem dX2_slope_68 : decode cX2_slope 68 = .ok (.lload 13, 2) := by decide +kernel
theorem dX2_slope_70 : decode cX2_slope 70 = .ok (.ladd, 1) := by decide +kernel
theorem dX2_slope_71 : decode cX2_slope 71 = .ok (.lstore 4, 2) := by decide +kernel
theorem dX2_slope_73 : decode cX2_slope 73 = .ok (.lload 6, 2) := by decide +kernel
theorem dX2_slope_75 : decode cX2_slope 75 = .ok (.lload 15, 2) := by decide +kernel
theorem dX2_slope_77 : decode cX2_slope 77 = .ok (.ladd, 1) := by decide +kernel
theorem dX2_slope_78 : decode cX2_slope 78 = .ok (.lstore 6, 2) := by decide +kernel
theorem dX2_slope_80 : decode cX2_slope 80 = .ok (.lload 8, 2) := by decide +kernel
theorem dX2_slope_82 : decode cX2_slope 82 = .ok (.lload 13, 2) := by decide +kernel
theorem dX2_slope_84 : decode cX2_slope 84 = .ok (.lload 15, 2) := by decide +kernel
theorem dX2_slope_86 : decode cX2_slope 86 = .ok (.lmul, 1) := by decide +kernel
theorem dX2_slope_87 : decode cX2_slope 87 = .ok (.ladd, 1) := by decide +kernel
theorem dX2_slope_88 : decode cX2_slope 88 = .ok (.lstore 8, 2) := by decide +kernel
theorem dX2_slope_90 : decode cX2_slope 90 = .ok (.lload 10, 2) := by decide +kernel
theorem dX2_slope_92 : decode cX2_slope 92 = .ok (.lload 13, 2) := by decide +kernel
theorem dX2_slope_94 : decode cX2_slope 94 = .ok (.lload 13, 2) := by decide +kernel
theorem dX2_slope_96 : decode cX2_slope 96 = .ok (.lmul, 1) := by decide +kernel
theorem dX2_slope_97 : decode cX2_slope 97 = .ok (.ladd, 1) := by decide +kernel
theorem dX2_slope_98 : decode cX2_slope 98 = .ok (.lstore 10, 2) := by decide +kernel
theorem dX2_slope_100 : decode cX2_slope 100 = .ok (.iinc 12 1, 3) := by decide +kernel
theorem dX2_slope_103 : decode cX2_slope 103 = .ok (.goto (-86), 3) := by decide +kernel
theorem dX2_slope_106 : decode cX2_slope 106 = .ok (.lload_n 2, 1) := by decide +kernel
theorem dX2_slope_107 : decode cX2_slope 107 = .ok (.ldc2_w 62, 3) := by decide +kernel
theorem dX2_slope_110 : decode cX2_slope 110 = .ok (.lcmp, 1) := by decide +kernel
theorem dX2_slope_111 : decode cX2_slope 111 = .ok (.ifCond .ge 6, 3) := by decide +kernel
theorem dX2_slope_114 : decode cX2_slope 114 = .ok (.ldc 64, 2) := by decide +kernel
theorem dX2_slope_116 : decode cX2_slope 116 = .ok (.ireturn, 1) := by decide +kernel
theorem dX2_slope_117 : decode cX2_slope 117 = .ok (.ldc2_w 65, 3) := by decide +kernel
theorem dX2_slope_120 : decode cX2_slope 120 = .ok (.lload_n 2, 1) := by decide +kernel
theorem dX2_slope_121 : decode cX2_slope 121 = .ok (.lload 8, 2) := by decide +kernel
theorem dX2_slope_123 : decode cX2_slope 123 = .ok (.lmul, 1) := by decide +kernel
theorem dX2_slope_124 : decode cX2_slope 124 = .ok (.lload 4, 2) := by decide +kernel
theorem dX2_slope_126 : decode cX2_slope 126 = .ok (.lload 6, 2) := by decide +kernel
theorem dX2_slope_128 : decode cX2_slope 128 = .ok (.lmul, 1) := by decide +kernel
theorem dX2_slope_129 : decode cX2_slope 129 = .ok (.lsub, 1) := by decide +kernel
theorem dX2_slope_130 : decode cX2_slope 130 = .ok (.lmul, 1) := by decide +kernel
theorem dX2_slope_131 : decode cX2_slope 131 = .ok (.lload_n 2, 1) := by decide +kernel
theorem dX2_slope_132 : decode cX2_slope 132 = .ok (.lload 10, 2) := by decide +kernel
theorem dX2_slope_134 : decode cX2_slope 134 = .ok (.lmul, 1) := by decide +kernel
theorem dX2_slope_135 : decode cX2_slope 135 = .ok (.lload 4, 2) := by decide +kernel
theorem dX2_slope_137 : decode cX2_slope 137 = .ok (.lload 4, 2) := by decide +kernel
theorem dX2_slope_139 : decode cX2_slope 139 = .ok (.lmul, 1) := by decide +kernel
theorem dX2_slope_140 : decode cX2_slope 140 = .ok (.lsub, 1) := by decide +kernel
theorem dX2_slope_141 : decode cX2_slope 141 = .ok (.invokestatic 67, 3) := by decide +kernel
theorem dX2_slope_144 : decode cX2_slope 144 = .ok (.l2i, 1) := by decide +kernel
theorem dX2_slope_145 : decode cX2_slope 145 = .ok (.ireturn, 1) := by decide +kernel
theorem dX3_init_0 : decode cX3_init 0 = .ok (.aload_n 0, 1) := by decide +kernel
theorem dX3_init_1 : decode cX3_init 1 = .ok (.invokespecial 3, 3) := by decide +kernel
theorem dX3_init_4 : decode cX3_init 4 = .ok (.aload_n 0, 1) := by decide +kernel
theorem dX3_init_5 : decode cX3_init 5 = .ok (.new 9, 3) := by decide +kernel
theorem dX3_init_8 : decode cX3_init 8 = .ok (.dup, 1) := by decide +kernel
theorem dX3_init_9 : decode cX3_init 9 = .ok (.bipush 8, 2) := by decide +kernel
theorem dX3_init_11 : decode cX3_init 11 = .ok (.invokespecial 11, 3) := by decide +kernel
theorem dX3_init_14 : decode cX3_init 14 = .ok (.putfield 14, 3) := by decide +kernel
theorem dX3_init_17 : decode cX3_init 17 = .ok (.aload_n 0, 1) := by decide +kernel
theorem dX3_init_18 : decode cX3_init 18 = .ok (.iconst (-1), 1) := by decide +kernel
theorem dX3_init_19 : decode cX3_init 19 = .ok (.putfield 20, 3) := by decide +kernel
theorem dX3_init_22 : decode cX3_init 22 = .ok (.return_, 1) := by decide +kernel
theorem dX3_errorPosition_0 : decode cX3_errorPosition 0 = .ok (.aload_n 0, 1) := by decide +kernel
theorem dX3_errorPosition_1 : decode cX3_errorPosition 1 = .ok (.getfield 14, 3) := by decide +kernel
theorem dX3_errorPosition_4 : decode cX3_errorPosition 4 = .ok (.iconst 0, 1) := by decide +kernel
theorem dX3_errorPosition_5 : decode cX3_errorPosition 5 = .ok (.putfield 24, 3) := by decide +kernel
theorem dX3_errorPosition_8 : decode cX3_errorPosition 8 = .ok (.aload_n 0, 1) := by decide +kernel
theorem dX3_errorPosition_9 : decode cX3_errorPosition 9 = .ok (.iconst (-1), 1) := by decide +kernel
theorem dX3_errorPosition_10 : decode cX3_errorPosition 10 = .ok (.putfield 20, 3) := by decide +kernel
theorem dX3_errorPosition_13 : decode cX3_errorPosition 13 = .ok (.iconst 0, 1) := by decide +kernel
theorem dX3_errorPosition_14 : decode cX3_errorPosition 14 = .ok (.istore_n 2, 1) := by decide +kernel
theorem dX3_errorPosition_15 : decode cX3_errorPosition 15 = .ok (.aload_n 1, 1) := by decide +kernel
theorem dX3_errorPosition_16 : decode cX3_errorPosition 16 = .ok (.iconst 0, 1) := by decide +kernel
theorem dX3_errorPosition_17 : decode cX3_errorPosition 17 = .ok (.invokevirtual 27, 3) := by decide +kernel
theorem dX3_errorPosition_20 : decode cX3_errorPosition 20 = .ok (.istore_n 3, 1) := by decide +kernel
theorem dX3_errorPosition_21 : decode cX3_errorPosition 21 = .ok (.iconst 0, 1) := by decide +kernel
theorem dX3_errorPosition_22 : decode cX3_errorPosition 22 = .ok (.istore 4, 2) := by decide +kernel
theorem dX3_errorPosition_24 : decode cX3_errorPosition 24 = .ok (.iload 4, 2) := by decide +kernel
theorem dX3_errorPosition_26 : decode cX3_errorPosition 26 = .ok (.bipush 100, 2) := by decide +kernel
theorem dX3_errorPosition_28 : decode cX3_errorPosition 28 = .ok (.if_icmp .ge 58, 3) := by decide +kernel
theorem dX3_errorPosition_31 : decode cX3_errorPosition 31 = .ok (.iload_n 3, 1) := by decide +kernel
theorem dX3_errorPosition_32 : decode cX3_errorPosition 32 = .ok (.aload_n 1, 1) := by decide +kernel
theorem dX3_errorPosition_33 : decode cX3_errorPosition 33 = .ok (.getfield 33, 3) := by decide +kernel
theorem dX3_errorPosition_36 : decode cX3_errorPosition 36 = .ok (.if_icmp .ge 50, 3) := by decide +kernel
theorem dX3_errorPosition_39 : decode cX3_errorPosition 39 = .ok (.aload_n 1, 1) := by decide +kernel
theorem dX3_errorPosition_40 : decode cX3_errorPosition 40 = .ok (.iload_n 3, 1) := by decide +kernel
theorem dX3_errorPosition_41 : decode cX3_errorPosition 41 = .ok (.invokevirtual 36, 3) := by decide +kernel
theorem dX3_errorPosition_44 : decode cX3_errorPosition 44 = .ok (.istore 5, 2) := by decide +kernel
theorem dX3_errorPosition_46 : decode cX3_errorPosition 46 = .ok (.aload_n 0, 1) := by decide +kernel
theorem dX3_errorPosition_47 : decode cX3_errorPosition 47 = .ok (.iload_n 2, 1) := by decide +kernel
theorem dX3_errorPosition_48 : decode cX3_errorPosition 48 = .ok (.aload_n 1, 1) := by decide +kernel
theorem dX3_errorPosition_49 : decode cX3_errorPosition 49 = .ok (.iload_n 3, 1) := by decide +kernel
theorem dX3_errorPosition_50 : decode cX3_errorPosition 50 = .ok (.iload 5, 2) := by decide +kernel
theorem dX3_errorPosition_52 : decode cX3_errorPosition 52 = .ok (.invokevirtual 39, 3) := by decide +kernel
theorem dX3_errorPosition_55 : decode cX3_errorPosition 55 = .ok (.ifCond .ne 5, 3) := by decide +kernel
theorem dX3_errorPosition_58 : decode cX3_errorPosition 58 = .ok (.iload_n 3, 1) := by decide +kernel
theorem dX3_errorPosition_59 : decode cX3_errorPosition 59 = .ok (.ireturn, 1) := by decide +kernel
theorem dX3_errorPosition_60 : decode cX3_errorPosition 60 = .ok (.iload_n 2, 1) := by decide +kernel
theorem dX3_errorPosition_61 : decode cX3_errorPosition 61 = .ok (.iconst 2, 1) := by decide +kernel
theorem dX3_errorPosition_62 : decode cX3_errorPosition 62 = .ok (.if_icmp .ne 7, 3) := by decide +kernel
theorem dX3_errorPosition_65 : decode cX3_errorPosition 65 = .ok (.iconst 0, 1) := by decide +kernel
theorem dX3_errorPosition_66 : decode cX3_errorPosition 66 = .ok (.goto 6, 3) := by decide +kernel
theorem dX3_errorPosition_69 : decode cX3_errorPosition 69 = .ok (.iload_n 2, 1) := by decide +kernel
theorem dX3_errorPosition_70 : decode cX3_errorPosition 70 = .ok (.iconst 1, 1) := by decide +kernel
theorem dX3_errorPosition_71 : decode cX3_errorPosition 71 = .ok (.iadd, 1) := by decide +kernel
theorem dX3_errorPosition_72 : decode cX3_errorPosition 72 = .ok (.istore_n 2, 1) := by decide +kernel
theorem dX3_errorPosition_73 : decode cX3_errorPosition 73 = .ok (.aload_n 1, 1) := by decide +kernel
theorem dX3_errorPosition_74 : decode cX3_errorPosition 74 = .ok (.iload 5, 2) := by decide +kernel
theorem dX3_errorPosition_76 : decode cX3_errorPosition 76 = .ok (.invokevirtual 27, 3) := by decide +kernel
theorem dX3_errorPosition_79 : decode cX3_errorPosition 79 = .ok (.istore_n 3, 1) := by decide +kernel
theorem dX3_errorPosition_80 : decode cX3_errorPosition 80 = .ok (.iinc 4 1, 3) := by decide +kernel
theorem dX3_errorPosition_83 : decode cX3_errorPosition 83 = .ok (.goto (-59), 3) := by decide +kernel
theorem dX3_errorPosition_86 : decode cX3_errorPosition 86 = .ok (.iload_n 2, 1) := by decide +kernel
theorem dX3_errorPosition_87 : decode cX3_errorPosition 87 = .ok (.ifCond .ne 7, 3) := by decide +kernel
theorem dX3_errorPosition_90 : decode cX3_errorPosition 90 = .ok (.iconst (-1), 1) := by decide +kernel
theorem dX3_errorPosition_91 : decode cX3_errorPosition 91 = .ok (.goto 7, 3) := by decide +kernel
theorem dX3_errorPosition_94 : decode cX3_errorPosition 94 = .ok (.aload_n 1, 1) := by decide +kernel
theorem dX3_errorPosition_95 : decode cX3_errorPosition 95 = .ok (.getfield 33, 3) := by decide +kernel
theorem dX3_errorPosition_98 : decode cX3_errorPosition 98 = .ok (.ireturn, 1) := by decide +kernel
theorem dX3_takes_0 : decode cX3_takes 0 = .ok (.iload_n 1, 1) := by decide +kernel
theorem dX3_takes_1 : decode cX3_takes 1 = .ok (.lookupswitch 51 #[(0, 27), (1, 39)], 27) := by decide +kernel
theorem dX3_takes_28 : decode cX3_takes 28 = .ok (.aload_n 0, 1) := by decide +kernel
theorem dX3_takes_29 : decode cX3_takes 29 = .ok (.aload_n 2, 1) := by decide +kernel
theorem dX3_takes_30 : decode cX3_takes 30 = .ok (.iload_n 3, 1) := by decide +kernel
theorem dX3_takes_31 : decode cX3_takes 31 = .ok (.iload 4, 2) := by decide +kernel
theorem dX3_takes_33 : decode cX3_takes 33 = .ok (.invokevirtual 43, 3) := by decide +kernel
theorem dX3_takes_36 : decode cX3_takes 36 = .ok (.invokevirtual 47, 3) := by decide +kernel
theorem dX3_takes_39 : decode cX3_takes 39 = .ok (.ireturn, 1) := by decide +kernel
theorem dX3_takes_40 : decode cX3_takes 40 = .ok (.aload_n 0, 1) := by decide +kernel
theorem dX3_takes_41 : decode cX3_takes 41 = .ok (.aload_n 2, 1) := by decide +kernel
theorem dX3_takes_42 : decode cX3_takes 42 = .ok (.iload_n 3, 1) := by decide +kernel
theorem dX3_takes_43 : decode cX3_takes 43 = .ok (.iload 4, 2) := by decide +kernel
theorem dX3_takes_45 : decode cX3_takes 45 = .ok (.invokevirtual 43, 3) := by decide +kernel
theorem dX3_takes_48 : decode cX3_takes 48 = .ok (.invokevirtual 51, 3) := by decide +kernel
theorem dX3_takes_51 : decode cX3_takes 51 = .ok (.ireturn, 1) := by decide +kernel
theorem dX3_takes_52 : decode cX3_takes 52 = .ok (.aload_n 2, 1) := by decide +kernel
theorem dX3_takes_53 : decode cX3_takes 53 = .ok (.iload_n 3, 1) := by decide +kernel
theorem dX3_takes_54 : decode cX3_takes 54 = .ok (.invokevirtual 54, 3) := by decide +kernel
theorem dX3_takes_57 : decode cX3_takes 57 = .ok (.bipush 59, 2) := by decide +kernel
theorem dX3_takes_59 : decode cX3_takes 59 = .ok (.if_icmp .ne 7, 3) := by decide +kernel
theorem dX3_takes_62 : decode cX3_takes 62 = .ok (.iconst 1, 1) := by decide +kernel
theorem dX3_takes_63 : decode cX3_takes 63 = .ok (.goto 4, 3) := by decide +kernel
theorem dX3_takes_66 : decode cX3_takes 66 = .ok (.iconst 0, 1) := by decide +kernel
theorem dX3_takes_67 : decode cX3_takes 67 = .ok (.ireturn, 1) := by decide +kernel
theorem dX3_takesTick_0 : decode cX3_takesTick 0 = .ok (.aload_n 0, 1) := by decide +kernel
theorem dX3_takesTick_1 : decode cX3_takesTick 1 = .ok (.getfield 14, 3) := by decide +kernel
theorem dX3_takesTick_4 : decode cX3_takesTick 4 = .ok (.getfield 24, 3) := by decide +kernel
theorem dX3_takesTick_7 : decode cX3_takesTick 7 = .ok (.bipush 8, 2) := by decide +kernel
theorem dX3_takesTick_9 : decode cX3_takesTick 9 = .ok (.if_icmp .ge 22, 3) := by decide +kernel
theorem dX3_takesTick_12 : decode cX3_takesTick 12 = .ok (.iload_n 1, 1) := by decide +kernel
theorem dX3_takesTick_13 : decode cX3_takesTick 13 = .ok (.aload_n 0, 1) := by decide +kernel
theorem dX3_takesTick_14 : decode cX3_takesTick 14 = .ok (.getfield 20, 3) := by decide +kernel
theorem dX3_takesTick_17 : decode cX3_takesTick 17 = .ok (.if_icmp .le 14, 3) := by decide +kernel
theorem dX3_takesTick_20 : decode cX3_takesTick 20 = .ok (.iload_n 1, 1) := by decide +kernel
theorem dX3_takesTick_21 : decode cX3_takesTick 21 = .ok (.iconst 0, 1) := by decide +kernel
theorem dX3_takesTick_22 : decode cX3_takesTick 22 = .ok (.sipush 400, 3) := by decide +kernel
theorem dX3_takesTick_25 : decode cX3_takesTick 25 = .ok (.invokestatic 57, 3) := by decide +kernel
theorem dX3_takesTick_28 : decode cX3_takesTick 28 = .ok (.ifCond .ne 5, 3) := by decide +kernel
theorem dX3_takesTick_31 : decode cX3_takesTick 31 = .ok (.iconst 0, 1) := by decide +kernel
theorem dX3_takesTick_32 : decode cX3_takesTick 32 = .ok (.ireturn, 1) := by decide +kernel
theorem dX3_takesTick_33 : decode cX3_takesTick 33 = .ok (.aload_n 0, 1) := by decide +kernel
theorem dX3_takesTick_34 : decode cX3_takesTick 34 = .ok (.iload_n 1, 1) := by decide +kernel
theorem dX3_takesTick_35 : decode cX3_takesTick 35 = .ok (.putfield 20, 3) := by decide +kernel
theorem dX3_takesTick_38 : decode cX3_takesTick 38 = .ok (.iconst 1, 1) := by decide +kernel
theorem dX3_takesTick_39 : decode cX3_takesTick 39 = .ok (.ireturn, 1) := by decide +kernel
theorem dX3_takesTemperature_0 : decode cX3_takesTemperature 0 = .ok (.iload_n 1, 1) := by decide +kernel
theorem dX3_takesTemperature_1 : decode cX3_takesTemperature 1 = .ok (.iconst 0, 1) := by decide +kernel
theorem dX3_takesTemperature_2 : decode cX3_takesTemperature 2 = .ok (.sipush 3000, 3) := by decide +kernel
theorem dX3_takesTemperature_5 : decode cX3_takesTemperature 5 = .ok (.invokestatic 57, 3) := by decide +kernel
theorem dX3_takesTemperature_8 : decode cX3_takesTemperature 8 = .ok (.ifCond .ne 5, 3) := by decide +kernel
theorem dX3_takesTemperature_11 : decode cX3_takesTemperature 11 = .ok (.iconst 0, 1) := by decide +kernel
theorem dX3_takesTemperature_12 : decode cX3_takesTemperature 12 = .ok (.ireturn, 1) := by decide +kernel
theorem dX3_takesTemperature_13 : decode cX3_takesTemperature 13 = .ok (.aload_n 0, 1) := by decide +kernel
theorem dX3_takesTemperature_14 : decode cX3_takesTemperature 14 = .ok (.getfield 14, 3) := by decide +kernel
theorem dX3_takesTemperature_17 : decode cX3_takesTemperature 17 = .ok (.aload_n 0, 1) := by decide +kernel
theorem dX3_takesTemperature_18 : decode cX3_takesTemperature 18 = .ok (.getfield 20, 3) := by decide +kernel
theorem dX3_takesTemperature_21 : decode cX3_takesTemperature 21 = .ok (.iload_n 1, 1) := by decide +kernel
theorem dX3_takesTemperature_22 : decode cX3_takesTemperature 22 = .ok (.invokevirtual 61, 3) := by decide +kernel
theorem dX3_takesTemperature_25 : decode cX3_takesTemperature 25 = .ok (.iconst 1, 1) := by decide +kernel
theorem dX3_takesTemperature_26 : decode cX3_takesTemperature 26 = .ok (.ireturn, 1) := by decide +kernel
theorem dX4_init_0 : decode cX4_init 0 = .ok (.aload_n 0, 1) := by decide +kernel
theorem dX4_init_1 : decode cX4_init 1 = .ok (.invokespecial 3, 3) := by decide +kernel
theorem dX4_init_4 : decode cX4_init 4 = .ok (.aload_n 0, 1) := by decide +kernel
theorem dX4_init_5 : decode cX4_init 5 = .ok (.new 9, 3) := by decide +kernel
theorem dX4_init_8 : decode cX4_init 8 = .ok (.dup, 1) := by decide +kernel
theorem dX4_init_9 : decode cX4_init 9 = .ok (.invokespecial 11, 3) := by decide +kernel
theorem dX4_init_12 : decode cX4_init 12 = .ok (.putfield 12, 3) := by decide +kernel
theorem dX4_init_15 : decode cX4_init 15 = .ok (.aload_n 0, 1) := by decide +kernel
theorem dX4_init_16 : decode cX4_init 16 = .ok (.new 18, 3) := by decide +kernel
theorem dX4_init_19 : decode cX4_init 19 = .ok (.dup, 1) := by decide +kernel
theorem dX4_init_20 : decode cX4_init 20 = .ok (.invokespecial 20, 3) := by decide +kernel
theorem dX4_init_23 : decode cX4_init 23 = .ok (.putfield 21, 3) := by decide +kernel
theorem dX4_init_26 : decode cX4_init 26 = .ok (.aload_n 0, 1) := by decide +kernel
theorem dX4_init_27 : decode cX4_init 27 = .ok (.iconst 0, 1) := by decide +kernel
theorem dX4_init_28 : decode cX4_init 28 = .ok (.putfield 25, 3) := by decide +kernel
theorem dX4_init_31 : decode cX4_init 31 = .ok (.aload_n 0, 1) := by decide +kernel
theorem dX4_init_32 : decode cX4_init 32 = .ok (.iconst 0, 1) := by decide +kernel
theorem dX4_init_33 : decode cX4_init 33 = .ok (.putfield 29, 3) := by decide +kernel
theorem dX4_init_36 : decode cX4_init 36 = .ok (.aload_n 0, 1) := by decide +kernel
theorem dX4_init_37 : decode cX4_init 37 = .ok (.sipush 250, 3) := by decide +kernel
theorem dX4_init_40 : decode cX4_init 40 = .ok (.putfield 32, 3) := by decide +kernel
theorem dX4_init_43 : decode cX4_init 43 = .ok (.aload_n 0, 1) := by decide +kernel
theorem dX4_init_44 : decode cX4_init 44 = .ok (.sipush 250, 3) := by decide +kernel
theorem dX4_init_47 : decode cX4_init 47 = .ok (.putfield 35, 3) := by decide +kernel
theorem dX4_init_50 : decode cX4_init 50 = .ok (.aload_n 0, 1) := by decide +kernel
theorem dX4_init_51 : decode cX4_init 51 = .ok (.iconst 0, 1) := by decide +kernel
theorem dX4_init_52 : decode cX4_init 52 = .ok (.putfield 38, 3) := by decide +kernel
theorem dX4_init_55 : decode cX4_init 55 = .ok (.aload_n 0, 1) := by decide +kernel
theorem dX4_init_56 : decode cX4_init 56 = .ok (.iconst 0, 1) := by decide +kernel
theorem dX4_init_57 : decode cX4_init 57 = .ok (.putfield 41, 3) := by decide +kernel
theorem dX4_init_60 : decode cX4_init 60 = .ok (.return_, 1) := by decide +kernel
theorem dX4_copyFrom_0 : decode cX4_copyFrom 0 = .ok (.aload_n 0, 1) := by decide +kernel
theorem dX4_copyFrom_1 : decode cX4_copyFrom 1 = .ok (.getfield 12, 3) := by decide +kernel
theorem dX4_copyFrom_4 : decode cX4_copyFrom 4 = .ok (.aload_n 1, 1) := by decide +kernel
theorem dX4_copyFrom_5 : decode cX4_copyFrom 5 = .ok (.getfield 12, 3) := by decide +kernel
theorem dX4_copyFrom_8 : decode cX4_copyFrom 8 = .ok (.invokevirtual 44, 3) := by decide +kernel
theorem dX4_copyFrom_11 : decode cX4_copyFrom 11 = .ok (.aload_n 0, 1) := by decide +kernel
theorem dX4_copyFrom_12 : decode cX4_copyFrom 12 = .ok (.getfield 21, 3) := by decide +kernel
theorem dX4_copyFrom_15 : decode cX4_copyFrom 15 = .ok (.aload_n 1, 1) := by decide +kernel
theorem dX4_copyFrom_16 : decode cX4_copyFrom 16 = .ok (.getfield 21, 3) := by decide +kernel
theorem dX4_copyFrom_19 : decode cX4_copyFrom 19 = .ok (.invokevirtual 48, 3) := by decide +kernel
theorem dX4_copyFrom_22 : decode cX4_copyFrom 22 = .ok (.aload_n 0, 1) := by decide +kernel
theorem dX4_copyFrom_23 : decode cX4_copyFrom 23 = .ok (.aload_n 1, 1) := by decide +kernel
theorem dX4_copyFrom_24 : decode cX4_copyFrom 24 = .ok (.getfield 25, 3) := by decide +kernel
theorem dX4_copyFrom_27 : decode cX4_copyFrom 27 = .ok (.putfield 25, 3) := by decide +kernel
theorem dX4_copyFrom_30 : decode cX4_copyFrom 30 = .ok (.aload_n 0, 1) := by decide +kernel
theorem dX4_copyFrom_31 : decode cX4_copyFrom 31 = .ok (.aload_n 1, 1) := by decide +kernel
theorem dX4_copyFrom_32 : decode cX4_copyFrom 32 = .ok (.getfield 29, 3) := by decide +kernel
theorem dX4_copyFrom_35 : decode cX4_copyFrom 35 = .ok (.putfield 29, 3) := by decide +kernel
theorem dX4_copyFrom_38 : decode cX4_copyFrom 38 = .ok (.aload_n 0, 1) := by decide +kernel
theorem dX4_copyFrom_39 : decode cX4_copyFrom 39 = .ok (.aload_n 1, 1) := by decide +kernel
theorem dX4_copyFrom_40 : decode cX4_copyFrom 40 = .ok (.getfield 32, 3) := by decide +kernel
theorem dX4_copyFrom_43 : decode cX4_copyFrom 43 = .ok (.putfield 32, 3) := by decide +kernel
theorem dX4_copyFrom_46 : decode cX4_copyFrom 46 = .ok (.aload_n 0, 1) := by decide +kernel
theorem dX4_copyFrom_47 : decode cX4_copyFrom 47 = .ok (.aload_n 1, 1) := by decide +kernel
theorem dX4_copyFrom_48 : decode cX4_copyFrom 48 = .ok (.getfield 35, 3) := by decide +kernel
theorem dX4_copyFrom_51 : decode cX4_copyFrom 51 = .ok (.putfield 35, 3) := by decide +kernel
theorem dX4_copyFrom_54 : decode cX4_copyFrom 54 = .ok (.aload_n 0, 1) := by decide +kernel
theorem dX4_copyFrom_55 : decode cX4_copyFrom 55 = .ok (.aload_n 1, 1) := by decide +kernel
theorem dX4_copyFrom_56 : decode cX4_copyFrom 56 = .ok (.getfield 38, 3) := by decide +kernel
theorem dX4_copyFrom_59 : decode cX4_copyFrom 59 = .ok (.putfield 38, 3) := by decide +kernel
theorem dX4_copyFrom_62 : decode cX4_copyFrom 62 = .ok (.aload_n 0, 1) := by decide +kernel
theorem dX4_copyFrom_63 : decode cX4_copyFrom 63 = .ok (.aload_n 1, 1) := by decide +kernel
theorem dX4_copyFrom_64 : decode cX4_copyFrom 64 = .ok (.getfield 41, 3) := by decide +kernel
theorem dX4_copyFrom_67 : decode cX4_copyFrom 67 = .ok (.putfield 41, 3) := by decide +kernel
theorem dX4_copyFrom_70 : decode cX4_copyFrom 70 = .ok (.return_, 1) := by decide +kernel
theorem dX4_startBatch_0 : decode cX4_startBatch 0 = .ok (.aload_n 0, 1) := by decide +kernel
theorem dX4_startBatch_1 : decode cX4_startBatch 1 = .ok (.getfield 21, 3) := by decide +kernel
theorem dX4_startBatch_4 : decode cX4_startBatch 4 = .ok (.iload_n 1, 1) := by decide +kernel
theorem dX4_startBatch_5 : decode cX4_startBatch 5 = .ok (.aload_n 0, 1) := by decide +kernel
theorem dX4_startBatch_6 : decode cX4_startBatch 6 = .ok (.getfield 12, 3) := by decide +kernel
theorem dX4_startBatch_9 : decode cX4_startBatch 9 = .ok (.getfield 51, 3) := by decide +kernel
theorem dX4_startBatch_12 : decode cX4_startBatch 12 = .ok (.invokevirtual 54, 3) := by decide +kernel
theorem dX4_startBatch_15 : decode cX4_startBatch 15 = .ok (.aload_n 0, 1) := by decide +kernel
theorem dX4_startBatch_16 : decode cX4_startBatch 16 = .ok (.iconst 1, 1) := by decide +kernel
theorem dX4_startBatch_17 : decode cX4_startBatch 17 = .ok (.putfield 29, 3) := by decide +kernel
theorem dX4_startBatch_20 : decode cX4_startBatch 20 = .ok (.aload_n 0, 1) := by decide +kernel
theorem dX4_startBatch_21 : decode cX4_startBatch 21 = .ok (.iconst 0, 1) := by decide +kernel
theorem dX4_startBatch_22 : decode cX4_startBatch 22 = .ok (.putfield 41, 3) := by decide +kernel
theorem dX4_startBatch_25 : decode cX4_startBatch 25 = .ok (.return_, 1) := by decide +kernel
theorem dX4_tick_0 : decode cX4_tick 0 = .ok (.aload_n 0, 1) := by decide +kernel
theorem dX4_tick_1 : decode cX4_tick 1 = .ok (.dup, 1) := by decide +kernel
theorem dX4_tick_2 : decode cX4_tick 2 = .ok (.getfield 25, 3) := by decide +kernel
theorem dX4_tick_5 : decode cX4_tick 5 = .ok (.iconst 1, 1) := by decide +kernel
theorem dX4_tick_6 : decode cX4_tick 6 = .ok (.iadd, 1) := by decide +kernel
theorem dX4_tick_7 : decode cX4_tick 7 = .ok (.putfield 25, 3) := by decide +kernel
theorem dX4_tick_10 : decode cX4_tick 10 = .ok (.aload_n 0, 1) := by decide +kernel
theorem dX4_tick_11 : decode cX4_tick 11 = .ok (.getfield 29, 3) := by decide +kernel
theorem dX4_tick_14 : decode cX4_tick 14 = .ok (.iconst 1, 1) := by decide +kernel
theorem dX4_tick_15 : decode cX4_tick 15 = .ok (.if_icmp .ne 21, 3) := by decide +kernel
theorem dX4_tick_18 : decode cX4_tick 18 = .ok (.aload_n 0, 1) := by decide +kernel
theorem dX4_tick_19 : decode cX4_tick 19 = .ok (.getfield 21, 3) := by decide +kernel
theorem dX4_tick_22 : decode cX4_tick 22 = .ok (.dup, 1) := by decide +kernel
theorem dX4_tick_23 : decode cX4_tick 23 = .ok (.getfield 58, 3) := by decide +kernel
theorem dX4_tick_26 : decode cX4_tick 26 = .ok (.iconst 1, 1) := by decide +kernel
theorem dX4_tick_27 : decode cX4_tick 27 = .ok (.iadd, 1) := by decide +kernel
theorem dX4_tick_28 : decode cX4_tick 28 = .ok (.putfield 58, 3) := by decide +kernel
theorem dX4_tick_31 : decode cX4_tick 31 = .ok (.aload_n 0, 1) := by decide +kernel
theorem dX4_tick_32 : decode cX4_tick 32 = .ok (.aload_n 1, 1) := by decide +kernel
theorem dX4_tick_33 : decode cX4_tick 33 = .ok (.invokevirtual 61, 3) := by decide +kernel
theorem dX4_tick_36 : decode cX4_tick 36 = .ok (.aload_n 0, 1) := by decide +kernel
theorem dX4_tick_37 : decode cX4_tick 37 = .ok (.invokevirtual 65, 3) := by decide +kernel
theorem dX4_tick_40 : decode cX4_tick 40 = .ok (.aload_n 0, 1) := by decide +kernel
theorem dX4_tick_41 : decode cX4_tick 41 = .ok (.getfield 29, 3) := by decide +kernel
theorem dX4_tick_44 : decode cX4_tick 44 = .ok (.iconst 1, 1) := by decide +kernel
theorem dX4_tick_45 : decode cX4_tick 45 = .ok (.if_icmp .ne 54, 3) := by decide +kernel
theorem dX4_tick_48 : decode cX4_tick 48 = .ok (.aload_n 0, 1) := by decide +kernel
theorem dX4_tick_49 : decode cX4_tick 49 = .ok (.getfield 21, 3) := by decide +kernel
theorem dX4_tick_52 : decode cX4_tick 52 = .ok (.aload_n 0, 1) := by decide +kernel
theorem dX4_tick_53 : decode cX4_tick 53 = .ok (.getfield 32, 3) := by decide +kernel
theorem dX4_tick_56 : decode cX4_tick 56 = .ok (.invokevirtual 68, 3) := by decide +kernel
theorem dX4_tick_59 : decode cX4_tick 59 = .ok (.aload_n 0, 1) := by decide +kernel
theorem dX4_tick_60 : decode cX4_tick 60 = .ok (.getfield 21, 3) := by decide +kernel
theorem dX4_tick_63 : decode cX4_tick 63 = .ok (.aload_n 0, 1) := by decide +kernel
theorem dX4_tick_64 : decode cX4_tick 64 = .ok (.getfield 12, 3) := by decide +kernel
theorem dX4_tick_67 : decode cX4_tick 67 = .ok (.getfield 72, 3) := by decide +kernel
theorem dX4_tick_70 : decode cX4_tick 70 = .ok (.invokevirtual 75, 3) := by decide +kernel
theorem dX4_tick_73 : decode cX4_tick 73 = .ok (.aload_n 0, 1) := by decide +kernel
theorem dX4_tick_74 : decode cX4_tick 74 = .ok (.getfield 21, 3) := by decide +kernel
theorem dX4_tick_77 : decode cX4_tick 77 = .ok (.dup, 1) := by decide +kernel
theorem dX4_tick_78 : decode cX4_tick 78 = .ok (.getfield 78, 3) := by decide +kernel
theorem dX4_tick_81 : decode cX4_tick 81 = .ok (.aload_n 2, 1) := by decide +kernel
theorem dX4_tick_82 : decode cX4_tick 82 = .ok (.aload_n 0, 1) := by decide +kernel
theorem dX4_tick_83 : decode cX4_tick 83 = .ok (.getfield 21, 3) := by decide +kernel
theorem dX4_tick_86 : decode cX4_tick 86 = .ok (.getfield 81, 3) := by decide +kernel
theorem dX4_tick_89 : decode cX4_tick 89 = .ok (.invokevirtual 84, 3) := by decide +kernel
theorem dX4_tick_92 : decode cX4_tick 92 = .ok (.iadd, 1) := by decide +kernel
theorem dX4_tick_93 : decode cX4_tick 93 = .ok (.putfield 78, 3) := by decide +kernel
theorem dX4_tick_96 : decode cX4_tick 96 = .ok (.goto 32, 3) := by decide +kernel
theorem dX4_tick_99 : decode cX4_tick 99 = .ok (.aload_n 0, 1) := by decide +kernel
theorem dX4_tick_100 : decode cX4_tick 100 = .ok (.getfield 29, 3) := by decide +kernel
theorem dX4_tick_103 : decode cX4_tick 103 = .ok (.iconst 2, 1) := by decide +kernel
theorem dX4_tick_104 : decode cX4_tick 104 = .ok (.if_icmp .ne 24, 3) := by decide +kernel
theorem dX4_tick_107 : decode cX4_tick 107 = .ok (.aload_n 0, 1) := by decide +kernel
theorem dX4_tick_108 : decode cX4_tick 108 = .ok (.getfield 21, 3) := by decide +kernel
theorem dX4_tick_111 : decode cX4_tick 111 = .ok (.aload_n 0, 1) := by decide +kernel
theorem dX4_tick_112 : decode cX4_tick 112 = .ok (.getfield 12, 3) := by decide +kernel
theorem dX4_tick_115 : decode cX4_tick 115 = .ok (.getfield 51, 3) := by decide +kernel
theorem dX4_tick_118 : decode cX4_tick 118 = .ok (.aload_n 0, 1) := by decide +kernel
theorem dX4_tick_119 : decode cX4_tick 119 = .ok (.getfield 12, 3) := by decide +kernel
theorem dX4_tick_122 : decode cX4_tick 122 = .ok (.getfield 90, 3) := by decide +kernel
theorem dX4_tick_125 : decode cX4_tick 125 = .ok (.invokevirtual 93, 3) := by decide +kernel
theorem dX4_tick_128 : decode cX4_tick 128 = .ok (.aload_n 0, 1) := by decide +kernel
theorem dX4_tick_129 : decode cX4_tick 129 = .ok (.invokevirtual 96, 3) := by decide +kernel
theorem dX4_tick_132 : decode cX4_tick 132 = .ok (.aload_n 0, 1) := by decide +kernel
theorem dX4_tick_133 : decode cX4_tick 133 = .ok (.getfield 29, 3) := by decide +kernel
theorem dX4_tick_136 : decode cX4_tick 136 = .ok (.iconst 1, 1) := by decide +kernel
theorem dX4_tick_137 : decode cX4_tick 137 = .ok (.if_icmp .ne 17, 3) := by decide +kernel
theorem dX4_tick_140 : decode cX4_tick 140 = .ok (.aload_n 0, 1) := by decide +kernel
theorem dX4_tick_141 : decode cX4_tick 141 = .ok (.getfield 21, 3) := by decide +kernel
theorem dX4_tick_144 : decode cX4_tick 144 = .ok (.aload_n 0, 1) := by decide +kernel
theorem dX4_tick_145 : decode cX4_tick 145 = .ok (.getfield 12, 3) := by decide +kernel
theorem dX4_tick_148 : decode cX4_tick 148 = .ok (.getfield 99, 3) := by decide +kernel
theorem dX4_tick_151 : decode cX4_tick 151 = .ok (.invokevirtual 102, 3) := by decide +kernel
theorem dX4_tick_154 : decode cX4_tick 154 = .ok (.return_, 1) := by decide +kernel
theorem dX4_steer_0 : decode cX4_steer 0 = .ok (.aload_n 0, 1) := by decide +kernel
theorem dX4_steer_1 : decode cX4_steer 1 = .ok (.getfield 12, 3) := by decide +kernel
theorem dX4_steer_4 : decode cX4_steer 4 = .ok (.getfield 105, 3) := by decide +kernel
theorem dX4_steer_7 : decode cX4_steer 7 = .ok (.iconst 1, 1) := by decide +kernel
theorem dX4_steer_8 : decode cX4_steer 8 = .ok (.if_icmp .ne 10, 3) := by decide +kernel
theorem dX4_steer_11 : decode cX4_steer 11 = .ok (.aload_n 1, 1) := by decide +kernel
theorem dX4_steer_12 : decode cX4_steer 12 = .ok (.getfield 108, 3) := by decide +kernel
theorem dX4_steer_15 : decode cX4_steer 15 = .ok (.ifCond .ne 4, 3) := by decide +kernel
theorem dX4_steer_18 : decode cX4_steer 18 = .ok (.return_, 1) := by decide +kernel
theorem dX4_steer_19 : decode cX4_steer 19 = .ok (.aload_n 1, 1) := by decide +kernel
theorem dX4_steer_20 : decode cX4_steer 20 = .ok (.aload_n 0, 1) := by decide +kernel
theorem dX4_steer_21 : decode cX4_steer 21 = .ok (.getfield 21, 3) := by decide +kernel
theorem dX4_steer_24 : decode cX4_steer 24 = .ok (.getfield 58, 3) := by decide +kernel
theorem dX4_steer_27 : decode cX4_steer 27 = .ok (.invokevirtual 111, 3) := by decide +kernel
theorem dX4_steer_30 : decode cX4_steer 30 = .ok (.aload_n 0, 1) := by decide +kernel
theorem dX4_steer_31 : decode cX4_steer 31 = .ok (.getfield 35, 3) := by decide +kernel
theorem dX4_steer_34 : decode cX4_steer 34 = .ok (.isub, 1) := by decide +kernel
theorem dX4_steer_35 : decode cX4_steer 35 = .ok (.istore_n 2, 1) := by decide +kernel
theorem dX4_steer_36 : decode cX4_steer 36 = .ok (.aload_n 0, 1) := by decide +kernel
theorem dX4_steer_37 : decode cX4_steer 37 = .ok (.aload_n 0, 1) := by decide +kernel
theorem dX4_steer_38 : decode cX4_steer 38 = .ok (.getfield 41, 3) := by decide +kernel
theorem dX4_steer_41 : decode cX4_steer 41 = .ok (.iload_n 2, 1) := by decide +kernel
theorem dX4_steer_42 : decode cX4_steer 42 = .ok (.iadd, 1) := by decide +kernel
theorem dX4_steer_43 : decode cX4_steer 43 = .ok (.sipush (-20000), 3) := by decide +kernel
theorem dX4_steer_46 : decode cX4_steer 46 = .ok (.sipush 20000, 3) := by decide +kernel
theorem dX4_steer_49 : decode cX4_steer 49 = .ok (.invokestatic 114, 3) := by decide +kernel
theorem dX4_steer_52 : decode cX4_steer 52 = .ok (.putfield 41, 3) := by decide +kernel
theorem dX4_steer_55 : decode cX4_steer 55 = .ok (.aload_n 0, 1) := by decide +kernel
theorem dX4_steer_56 : decode cX4_steer 56 = .ok (.getfield 12, 3) := by decide +kernel
theorem dX4_steer_59 : decode cX4_steer 59 = .ok (.getfield 118, 3) := by decide +kernel
theorem dX4_steer_62 : decode cX4_steer 62 = .ok (.aload_n 0, 1) := by decide +kernel
theorem dX4_steer_63 : decode cX4_steer 63 = .ok (.getfield 12, 3) := by decide +kernel
theorem dX4_steer_66 : decode cX4_steer 66 = .ok (.getfield 121, 3) := by decide +kernel
theorem dX4_steer_69 : decode cX4_steer 69 = .ok (.iload_n 2, 1) := by decide +kernel
theorem dX4_steer_70 : decode cX4_steer 70 = .ok (.imul, 1) := by decide +kernel
theorem dX4_steer_71 : decode cX4_steer 71 = .ok (.bipush 100, 2) := by decide +kernel
theorem dX4_steer_73 : decode cX4_steer 73 = .ok (.invokestatic 124, 3) := by decide +kernel
theorem dX4_steer_76 : decode cX4_steer 76 = .ok (.iadd, 1) := by decide +kernel
theorem dX4_steer_77 : decode cX4_steer 77 = .ok (.aload_n 0, 1) := by decide +kernel
theorem dX4_steer_78 : decode cX4_steer 78 = .ok (.getfield 12, 3) := by decide +kernel
theorem dX4_steer_81 : decode cX4_steer 81 = .ok (.getfield 130, 3) := by decide +kernel
theorem dX4_steer_84 : decode cX4_steer 84 = .ok (.aload_n 0, 1) := by decide +kernel
theorem dX4_steer_85 : decode cX4_steer 85 = .ok (.getfield 41, 3) := by decide +kernel
theorem dX4_steer_88 : decode cX4_steer 88 = .ok (.imul, 1) := by decide +kernel
theorem dX4_steer_89 : decode cX4_steer 89 = .ok (.sipush 1000, 3) := by decide +kernel
theorem dX4_steer_92 : decode cX4_steer 92 = .ok (.invokestatic 124, 3) := by decide +kernel
theorem dX4_steer_95 : decode cX4_steer 95 = .ok (.iadd, 1) := by decide +kernel
theorem dX4_steer_96 : decode cX4_steer 96 = .ok (.istore_n 3, 1) := by decide +kernel
theorem dX4_steer_97 : decode cX4_steer 97 = .ok (.aload_n 0, 1) := by decide +kernel
theorem dX4_steer_98 : decode cX4_steer 98 = .ok (.iload_n 3, 1) := by decide +kernel
theorem dX4_steer_99 : decode cX4_steer 99 = .ok (.iconst 0, 1) := by decide +kernel
theorem dX4_steer_100 : decode cX4_steer 100 = .ok (.bipush 100, 2) := by decide +kernel
theorem dX4_steer_102 : decode cX4_steer 102 = .ok (.invokestatic 114, 3) := by decide +kernel
theorem dX4_steer_105 : decode cX4_steer 105 = .ok (.putfield 38, 3) := by decide +kernel
theorem dX4_steer_108 : decode cX4_steer 108 = .ok (.return_, 1) := by decide +kernel
theorem dX4_moveDrum_0 : decode cX4_moveDrum 0 = .ok (.aload_n 0, 1) := by decide +kernel
theorem dX4_moveDrum_1 : decode cX4_moveDrum 1 = .ok (.getfield 32, 3) := by decide +kernel
theorem dX4_moveDrum_4 : decode cX4_moveDrum 4 = .ok (.istore_n 1, 1) := by decide +kernel
theorem dX4_moveDrum_5 : decode cX4_moveDrum 5 = .ok (.iload_n 1, 1) := by decide +kernel
theorem dX4_moveDrum_6 : decode cX4_moveDrum 6 = .ok (.aload_n 0, 1) := by decide +kernel
theorem dX4_moveDrum_7 : decode cX4_moveDrum 7 = .ok (.getfield 12, 3) := by decide +kernel
theorem dX4_moveDrum_10 : decode cX4_moveDrum 10 = .ok (.getfield 51, 3) := by decide +kernel
theorem dX4_moveDrum_13 : decode cX4_moveDrum 13 = .ok (.isub, 1) := by decide +kernel
theorem dX4_moveDrum_14 : decode cX4_moveDrum 14 = .ok (.iconst 5, 1) := by decide +kernel
theorem dX4_moveDrum_15 : decode cX4_moveDrum 15 = .ok (.invokestatic 124, 3) := by decide +kernel
theorem dX4_moveDrum_18 : decode cX4_moveDrum 18 = .ok (.istore_n 2, 1) := by decide +kernel
theorem dX4_moveDrum_19 : decode cX4_moveDrum 19 = .ok (.aload_n 0, 1) := by decide +kernel
theorem dX4_moveDrum_20 : decode cX4_moveDrum 20 = .ok (.iload_n 1, 1) := by decide +kernel
theorem dX4_moveDrum_21 : decode cX4_moveDrum 21 = .ok (.bipush 8, 2) := by decide +kernel
theorem dX4_moveDrum_23 : decode cX4_moveDrum 23 = .ok (.aload_n 0, 1) := by decide +kernel
theorem dX4_moveDrum_24 : decode cX4_moveDrum 24 = .ok (.getfield 38, 3) := by decide +kernel
theorem dX4_moveDrum_27 : decode cX4_moveDrum 27 = .ok (.imul, 1) := by decide +kernel
theorem dX4_moveDrum_28 : decode cX4_moveDrum 28 = .ok (.iload_n 2, 1) := by decide +kernel
theorem dX4_moveDrum_29 : decode cX4_moveDrum 29 = .ok (.isub, 1) := by decide +kernel
theorem dX4_moveDrum_30 : decode cX4_moveDrum 30 = .ok (.bipush 10, 2) := by decide +kernel
theorem dX4_moveDrum_32 : decode cX4_moveDrum 32 = .ok (.invokestatic 124, 3) := by decide +kernel
theorem dX4_moveDrum_35 : decode cX4_moveDrum 35 = .ok (.iadd, 1) := by decide +kernel
theorem dX4_moveDrum_36 : decode cX4_moveDrum 36 = .ok (.putfield 32, 3) := by decide +kernel
theorem dX4_moveDrum_39 : decode cX4_moveDrum 39 = .ok (.aload_n 0, 1) := by decide +kernel
theorem dX4_moveDrum_40 : decode cX4_moveDrum 40 = .ok (.getfield 29, 3) := by decide +kernel
theorem dX4_moveDrum_43 : decode cX4_moveDrum 43 = .ok (.iconst 1, 1) := by decide +kernel
theorem dX4_moveDrum_44 : decode cX4_moveDrum 44 = .ok (.if_icmp .ne 35, 3) := by decide +kernel
theorem dX4_moveDrum_47 : decode cX4_moveDrum 47 = .ok (.aload_n 0, 1) := by decide +kernel
theorem dX4_moveDrum_48 : decode cX4_moveDrum 48 = .ok (.dup, 1) := by decide +kernel
theorem dX4_moveDrum_49 : decode cX4_moveDrum 49 = .ok (.getfield 32, 3) := by decide +kernel
theorem dX4_moveDrum_52 : decode cX4_moveDrum 52 = .ok (.iload_n 1, 1) := by decide +kernel
theorem dX4_moveDrum_53 : decode cX4_moveDrum 53 = .ok (.aload_n 0, 1) := by decide +kernel
theorem dX4_moveDrum_54 : decode cX4_moveDrum 54 = .ok (.getfield 21, 3) := by decide +kernel
theorem dX4_moveDrum_57 : decode cX4_moveDrum 57 = .ok (.getfield 81, 3) := by decide +kernel
theorem dX4_moveDrum_60 : decode cX4_moveDrum 60 = .ok (.isub, 1) := by decide +kernel
theorem dX4_moveDrum_61 : decode cX4_moveDrum 61 = .ok (.aload_n 0, 1) := by decide +kernel
theorem dX4_moveDrum_62 : decode cX4_moveDrum 62 = .ok (.getfield 21, 3) := by decide +kernel
theorem dX4_moveDrum_65 : decode cX4_moveDrum 65 = .ok (.getfield 133, 3) := by decide +kernel
theorem dX4_moveDrum_68 : decode cX4_moveDrum 68 = .ok (.imul, 1) := by decide +kernel
theorem dX4_moveDrum_69 : decode cX4_moveDrum 69 = .ok (.sipush 20000, 3) := by decide +kernel
theorem dX4_moveDrum_72 : decode cX4_moveDrum 72 = .ok (.invokestatic 124, 3) := by decide +kernel
theorem dX4_moveDrum_75 : decode cX4_moveDrum 75 = .ok (.isub, 1) := by decide +kernel
theorem dX4_moveDrum_76 : decode cX4_moveDrum 76 = .ok (.putfield 32, 3) := by decide +kernel
theorem dX4_moveDrum_79 : decode cX4_moveDrum 79 = .ok (.return_, 1) := by decide +kernel
theorem dX4_moveProbe_0 : decode cX4_moveProbe 0 = .ok (.aload_n 0, 1) := by decide +kernel
theorem dX4_moveProbe_1 : decode cX4_moveProbe 1 = .ok (.getfield 29, 3) := by decide +kernel
theorem dX4_moveProbe_4 : decode cX4_moveProbe 4 = .ok (.iconst 1, 1) := by decide +kernel
theorem dX4_moveProbe_5 : decode cX4_moveProbe 5 = .ok (.if_icmp .ne 13, 3) := by decide +kernel
theorem dX4_moveProbe_8 : decode cX4_moveProbe 8 = .ok (.aload_n 0, 1) := by decide +kernel
theorem dX4_moveProbe_9 : decode cX4_moveProbe 9 = .ok (.getfield 21, 3) := by decide +kernel
theorem dX4_moveProbe_12 : decode cX4_moveProbe 12 = .ok (.getfield 81, 3) := by decide +kernel
theorem dX4_moveProbe_15 : decode cX4_moveProbe 15 = .ok (.goto 7, 3) := by decide +kernel
theorem dX4_moveProbe_18 : decode cX4_moveProbe 18 = .ok (.aload_n 0, 1) := by decide +kernel
theorem dX4_moveProbe_19 : decode cX4_moveProbe 19 = .ok (.getfield 32, 3) := by decide +kernel
theorem dX4_moveProbe_22 : decode cX4_moveProbe 22 = .ok (.istore_n 1, 1) := by decide +kernel
theorem dX4_moveProbe_23 : decode cX4_moveProbe 23 = .ok (.aload_n 0, 1) := by decide +kernel
theorem dX4_moveProbe_24 : decode cX4_moveProbe 24 = .ok (.dup, 1) := by decide +kernel
theorem dX4_moveProbe_25 : decode cX4_moveProbe 25 = .ok (.getfield 35, 3) := by decide +kernel
theorem dX4_moveProbe_28 : decode cX4_moveProbe 28 = .ok (.iload_n 1, 1) := by decide +kernel
theorem dX4_moveProbe_29 : decode cX4_moveProbe 29 = .ok (.aload_n 0, 1) := by decide +kernel
theorem dX4_moveProbe_30 : decode cX4_moveProbe 30 = .ok (.getfield 35, 3) := by decide +kernel
theorem dX4_moveProbe_33 : decode cX4_moveProbe 33 = .ok (.isub, 1) := by decide +kernel
theorem dX4_moveProbe_34 : decode cX4_moveProbe 34 = .ok (.i2l, 1) := by decide +kernel
theorem dX4_moveProbe_35 : decode cX4_moveProbe 35 = .ok (.aload_n 0, 1) := by decide +kernel
theorem dX4_moveProbe_36 : decode cX4_moveProbe 36 = .ok (.getfield 12, 3) := by decide +kernel
theorem dX4_moveProbe_39 : decode cX4_moveProbe 39 = .ok (.getfield 136, 3) := by decide +kernel
theorem dX4_moveProbe_42 : decode cX4_moveProbe 42 = .ok (.i2l, 1) := by decide +kernel
theorem dX4_moveProbe_43 : decode cX4_moveProbe 43 = .ok (.invokestatic 139, 3) := by decide +kernel
theorem dX4_moveProbe_46 : decode cX4_moveProbe 46 = .ok (.l2i, 1) := by decide +kernel
theorem dX4_moveProbe_47 : decode cX4_moveProbe 47 = .ok (.iadd, 1) := by decide +kernel
theorem dX4_moveProbe_48 : decode cX4_moveProbe 48 = .ok (.putfield 35, 3) := by decide +kernel
theorem dX4_moveProbe_51 : decode cX4_moveProbe 51 = .ok (.return_, 1) := by decide +kernel
theorem dX5_init_0 : decode cX5_init 0 = .ok (.aload_n 0, 1) := by decide +kernel
theorem dX5_init_1 : decode cX5_init 1 = .ok (.invokespecial 1, 3) := by decide +kernel
theorem dX5_init_4 : decode cX5_init 4 = .ok (.aload_n 0, 1) := by decide +kernel
theorem dX5_init_5 : decode cX5_init 5 = .ok (.sipush 250, 3) := by decide +kernel
theorem dX5_init_8 : decode cX5_init 8 = .ok (.putfield 7, 3) := by decide +kernel
theorem dX5_init_11 : decode cX5_init 11 = .ok (.aload_n 0, 1) := by decide +kernel
theorem dX5_init_12 : decode cX5_init 12 = .ok (.iconst 0, 1) := by decide +kernel
theorem dX5_init_13 : decode cX5_init 13 = .ok (.putfield 13, 3) := by decide +kernel
theorem dX5_init_16 : decode cX5_init 16 = .ok (.aload_n 0, 1) := by decide +kernel
theorem dX5_init_17 : decode cX5_init 17 = .ok (.bipush 50, 2) := by decide +kernel
theorem dX5_init_19 : decode cX5_init 19 = .ok (.putfield 16, 3) := by decide +kernel
theorem dX5_init_22 : decode cX5_init 22 = .ok (.aload_n 0, 1) := by decide +kernel
theorem dX5_init_23 : decode cX5_init 23 = .ok (.iconst 5, 1) := by decide +kernel
theorem dX5_init_24 : decode cX5_init 24 = .ok (.putfield 19, 3) := by decide +kernel
theorem dX5_init_27 : decode cX5_init 27 = .ok (.aload_n 0, 1) := by decide +kernel
theorem dX5_init_28 : decode cX5_init 28 = .ok (.bipush 50, 2) := by decide +kernel
theorem dX5_init_30 : decode cX5_init 30 = .ok (.putfield 22, 3) := by decide +kernel
theorem dX5_init_33 : decode cX5_init 33 = .ok (.aload_n 0, 1) := by decide +kernel
theorem dX5_init_34 : decode cX5_init 34 = .ok (.iconst 4, 1) := by decide +kernel
theorem dX5_init_35 : decode cX5_init 35 = .ok (.putfield 25, 3) := by decide +kernel
theorem dX5_init_38 : decode cX5_init 38 = .ok (.aload_n 0, 1) := by decide +kernel
theorem dX5_init_39 : decode cX5_init 39 = .ok (.iconst 0, 1) := by decide +kernel
theorem dX5_init_40 : decode cX5_init 40 = .ok (.putfield 28, 3) := by decide +kernel
theorem dX5_init_43 : decode cX5_init 43 = .ok (.aload_n 0, 1) := by decide +kernel
theorem dX5_init_44 : decode cX5_init 44 = .ok (.sipush 1960, 3) := by decide +kernel
theorem dX5_init_47 : decode cX5_init 47 = .ok (.putfield 31, 3) := by decide +kernel
theorem dX5_init_50 : decode cX5_init 50 = .ok (.aload_n 0, 1) := by decide +kernel
theorem dX5_init_51 : decode cX5_init 51 = .ok (.bipush 30, 2) := by decide +kernel
theorem dX5_init_53 : decode cX5_init 53 = .ok (.putfield 34, 3) := by decide +kernel
theorem dX5_init_56 : decode cX5_init 56 = .ok (.aload_n 0, 1) := by decide +kernel
theorem dX5_init_57 : decode cX5_init 57 = .ok (.bipush 10, 2) := by decide +kernel
theorem dX5_init_59 : decode cX5_init 59 = .ok (.putfield 37, 3) := by decide +kernel
theorem dX5_init_62 : decode cX5_init 62 = .ok (.return_, 1) := by decide +kernel
theorem dX5_copyFrom_0 : decode cX5_copyFrom 0 = .ok (.aload_n 0, 1) := by decide +kernel
theorem dX5_copyFrom_1 : decode cX5_copyFrom 1 = .ok (.aload_n 1, 1) := by decide +kernel
theorem dX5_copyFrom_2 : decode cX5_copyFrom 2 = .ok (.getfield 7, 3) := by decide +kernel
theorem dX5_copyFrom_5 : decode cX5_copyFrom 5 = .ok (.putfield 7, 3) := by decide +kernel
theorem dX5_copyFrom_8 : decode cX5_copyFrom 8 = .ok (.aload_n 0, 1) := by decide +kernel
theorem dX5_copyFrom_9 : decode cX5_copyFrom 9 = .ok (.aload_n 1, 1) := by decide +kernel
theorem dX5_copyFrom_10 : decode cX5_copyFrom 10 = .ok (.getfield 13, 3) := by decide +kernel
theorem dX5_copyFrom_13 : decode cX5_copyFrom 13 = .ok (.putfield 13, 3) := by decide +kernel
theorem dX5_copyFrom_16 : decode cX5_copyFrom 16 = .ok (.aload_n 0, 1) := by decide +kernel
theorem dX5_copyFrom_17 : decode cX5_copyFrom 17 = .ok (.aload_n 1, 1) := by decide +kernel
theorem dX5_copyFrom_18 : decode cX5_copyFrom 18 = .ok (.getfield 16, 3) := by decide +kernel
theorem dX5_copyFrom_21 : decode cX5_copyFrom 21 = .ok (.putfield 16, 3) := by decide +kernel
theorem dX5_copyFrom_24 : decode cX5_copyFrom 24 = .ok (.aload_n 0, 1) := by decide +kernel
theorem dX5_copyFrom_25 : decode cX5_copyFrom 25 = .ok (.aload_n 1, 1) := by decide +kernel
theorem dX5_copyFrom_26 : decode cX5_copyFrom 26 = .ok (.getfield 19, 3) := by decide +kernel
theorem dX5_copyFrom_29 : decode cX5_copyFrom 29 = .ok (.putfield 19, 3) := by decide +kernel
theorem dX5_copyFrom_32 : decode cX5_copyFrom 32 = .ok (.aload_n 0, 1) := by decide +kernel
theorem dX5_copyFrom_33 : decode cX5_copyFrom 33 = .ok (.aload_n 1, 1) := by decide +kernel
theorem dX5_copyFrom_34 : decode cX5_copyFrom 34 = .ok (.getfield 22, 3) := by decide +kernel
theorem dX5_copyFrom_37 : decode cX5_copyFrom 37 = .ok (.putfield 22, 3) := by decide +kernel
theorem dX5_copyFrom_40 : decode cX5_copyFrom 40 = .ok (.aload_n 0, 1) := by decide +kernel
theorem dX5_copyFrom_41 : decode cX5_copyFrom 41 = .ok (.aload_n 1, 1) := by decide +kernel
theorem dX5_copyFrom_42 : decode cX5_copyFrom 42 = .ok (.getfield 25, 3) := by decide +kernel
theorem dX5_copyFrom_45 : decode cX5_copyFrom 45 = .ok (.putfield 25, 3) := by decide +kernel
theorem dX5_copyFrom_48 : decode cX5_copyFrom 48 = .ok (.aload_n 0, 1) := by decide +kernel
theorem dX5_copyFrom_49 : decode cX5_copyFrom 49 = .ok (.aload_n 1, 1) := by decide +kernel
theorem dX5_copyFrom_50 : decode cX5_copyFrom 50 = .ok (.getfield 28, 3) := by decide +kernel
theorem dX5_copyFrom_53 : decode cX5_copyFrom 53 = .ok (.putfield 28, 3) := by decide +kernel
theorem dX5_copyFrom_56 : decode cX5_copyFrom 56 = .ok (.aload_n 0, 1) := by decide +kernel
theorem dX5_copyFrom_57 : decode cX5_copyFrom 57 = .ok (.aload_n 1, 1) := by decide +kernel
theorem dX5_copyFrom_58 : decode cX5_copyFrom 58 = .ok (.getfield 31, 3) := by decide +kernel
theorem dX5_copyFrom_61 : decode cX5_copyFrom 61 = .ok (.putfield 31, 3) := by decide +kernel
theorem dX5_copyFrom_64 : decode cX5_copyFrom 64 = .ok (.aload_n 0, 1) := by decide +kernel
theorem dX5_copyFrom_65 : decode cX5_copyFrom 65 = .ok (.aload_n 1, 1) := by decide +kernel
theorem dX5_copyFrom_66 : decode cX5_copyFrom 66 = .ok (.getfield 34, 3) := by decide +kernel
theorem dX5_copyFrom_69 : decode cX5_copyFrom 69 = .ok (.putfield 34, 3) := by decide +kernel
theorem dX5_copyFrom_72 : decode cX5_copyFrom 72 = .ok (.aload_n 0, 1) := by decide +kernel
theorem dX5_copyFrom_73 : decode cX5_copyFrom 73 = .ok (.aload_n 1, 1) := by decide +kernel
theorem dX5_copyFrom_74 : decode cX5_copyFrom 74 = .ok (.getfield 37, 3) := by decide +kernel
theorem dX5_copyFrom_77 : decode cX5_copyFrom 77 = .ok (.putfield 37, 3) := by decide +kernel
theorem dX5_copyFrom_80 : decode cX5_copyFrom 80 = .ok (.return_, 1) := by decide +kernel
theorem dX6_init_0 : decode cX6_init 0 = .ok (.aload_n 0, 1) := by decide +kernel
theorem dX6_init_1 : decode cX6_init 1 = .ok (.invokespecial 1, 3) := by decide +kernel
theorem dX6_init_4 : decode cX6_init 4 = .ok (.aload_n 0, 1) := by decide +kernel
theorem dX6_init_5 : decode cX6_init 5 = .ok (.iconst 0, 1) := by decide +kernel
theorem dX6_init_6 : decode cX6_init 6 = .ok (.putfield 7, 3) := by decide +kernel
theorem dX6_init_9 : decode cX6_init 9 = .ok (.aload_n 0, 1) := by decide +kernel
theorem dX6_init_10 : decode cX6_init 10 = .ok (.iload_n 1, 1) := by decide +kernel
theorem dX6_init_11 : decode cX6_init 11 = .ok (.iconst 0, 1) := by decide +kernel
theorem dX6_init_12 : decode cX6_init 12 = .ok (.invokestatic 13, 3) := by decide +kernel
theorem dX6_init_15 : decode cX6_init 15 = .ok (.newarray .int, 2) := by decide +kernel
theorem dX6_init_17 : decode cX6_init 17 = .ok (.putfield 19, 3) := by decide +kernel
theorem dX6_init_20 : decode cX6_init 20 = .ok (.aload_n 0, 1) := by decide +kernel
theorem dX6_init_21 : decode cX6_init 21 = .ok (.iload_n 1, 1) := by decide +kernel
theorem dX6_init_22 : decode cX6_init 22 = .ok (.iconst 0, 1) := by decide +kernel
theorem dX6_init_23 : decode cX6_init 23 = .ok (.invokestatic 13, 3) := by decide +kernel
theorem dX6_init_26 : decode cX6_init 26 = .ok (.newarray .int, 2) := by decide +kernel
theorem dX6_init_28 : decode cX6_init 28 = .ok (.putfield 23, 3) := by decide +kernel
theorem dX6_init_31 : decode cX6_init 31 = .ok (.return_, 1) := by decide +kernel
theorem dX6_copyFrom_0 : decode cX6_copyFrom 0 = .ok (.aload_n 1, 1) := by decide +kernel
theorem dX6_copyFrom_1 : decode cX6_copyFrom 1 = .ok (.getfield 19, 3) := by decide +kernel
theorem dX6_copyFrom_4 : decode cX6_copyFrom 4 = .ok (.aload_n 0, 1) := by decide +kernel
theorem dX6_copyFrom_5 : decode cX6_copyFrom 5 = .ok (.getfield 19, 3) := by decide +kernel
theorem dX6_copyFrom_8 : decode cX6_copyFrom 8 = .ok (.invokestatic 26, 3) := by decide +kernel
theorem dX6_copyFrom_11 : decode cX6_copyFrom 11 = .ok (.aload_n 1, 1) := by decide +kernel
theorem dX6_copyFrom_12 : decode cX6_copyFrom 12 = .ok (.getfield 23, 3) := by decide +kernel
theorem dX6_copyFrom_15 : decode cX6_copyFrom 15 = .ok (.aload_n 0, 1) := by decide +kernel
theorem dX6_copyFrom_16 : decode cX6_copyFrom 16 = .ok (.getfield 23, 3) := by decide +kernel
theorem dX6_copyFrom_19 : decode cX6_copyFrom 19 = .ok (.invokestatic 26, 3) := by decide +kernel
theorem dX6_copyFrom_22 : decode cX6_copyFrom 22 = .ok (.aload_n 0, 1) := by decide +kernel
theorem dX6_copyFrom_23 : decode cX6_copyFrom 23 = .ok (.aload_n 1, 1) := by decide +kernel
theorem dX6_copyFrom_24 : decode cX6_copyFrom 24 = .ok (.getfield 7, 3) := by decide +kernel
theorem dX6_copyFrom_27 : decode cX6_copyFrom 27 = .ok (.aload_n 0, 1) := by decide +kernel
theorem dX6_copyFrom_28 : decode cX6_copyFrom 28 = .ok (.getfield 19, 3) := by decide +kernel
theorem dX6_copyFrom_31 : decode cX6_copyFrom 31 = .ok (.arraylength, 1) := by decide +kernel
theorem dX6_copyFrom_32 : decode cX6_copyFrom 32 = .ok (.invokestatic 32, 3) := by decide +kernel
theorem dX6_copyFrom_35 : decode cX6_copyFrom 35 = .ok (.putfield 7, 3) := by decide +kernel
theorem dX6_copyFrom_38 : decode cX6_copyFrom 38 = .ok (.return_, 1) := by decide +kernel
theorem dX6_indexBelow_0 : decode cX6_indexBelow 0 = .ok (.iconst (-1), 1) := by decide +kernel
theorem dX6_indexBelow_1 : decode cX6_indexBelow 1 = .ok (.istore_n 2, 1) := by decide +kernel
theorem dX6_indexBelow_2 : decode cX6_indexBelow 2 = .ok (.iconst 0, 1) := by decide +kernel
theorem dX6_indexBelow_3 : decode cX6_indexBelow 3 = .ok (.istore_n 3, 1) := by decide +kernel
theorem dX6_indexBelow_4 : decode cX6_indexBelow 4 = .ok (.iload_n 3, 1) := by decide +kernel
theorem dX6_indexBelow_5 : decode cX6_indexBelow 5 = .ok (.aload_n 0, 1) := by decide +kernel
theorem dX6_indexBelow_6 : decode cX6_indexBelow 6 = .ok (.getfield 7, 3) := by decide +kernel
theorem dX6_indexBelow_9 : decode cX6_indexBelow 9 = .ok (.if_icmp .ge 23, 3) := by decide +kernel
theorem dX6_indexBelow_12 : decode cX6_indexBelow 12 = .ok (.aload_n 0, 1) := by decide +kernel
theorem dX6_indexBelow_13 : decode cX6_indexBelow 13 = .ok (.getfield 19, 3) := by decide +kernel
theorem dX6_indexBelow_16 : decode cX6_indexBelow 16 = .ok (.iload_n 3, 1) := by decide +kernel
theorem dX6_indexBelow_17 : decode cX6_indexBelow 17 = .ok (.invokestatic 35, 3) := by decide +kernel
theorem dX6_indexBelow_20 : decode cX6_indexBelow 20 = .ok (.iload_n 1, 1) := by decide +kernel
theorem dX6_indexBelow_21 : decode cX6_indexBelow 21 = .ok (.if_icmp .gt 11, 3) := by decide +kernel
theorem dX6_indexBelow_24 : decode cX6_indexBelow 24 = .ok (.iload_n 3, 1) := by decide +kernel
theorem dX6_indexBelow_25 : decode cX6_indexBelow 25 = .ok (.istore_n 2, 1) := by decide +kernel
theorem dX6_indexBelow_26 : decode cX6_indexBelow 26 = .ok (.iinc 3 1, 3) := by decide +kernel
theorem dX6_indexBelow_29 : decode cX6_indexBelow 29 = .ok (.goto (-25), 3) := by decide +kernel
theorem dX6_indexBelow_32 : decode cX6_indexBelow 32 = .ok (.iload_n 2, 1) := by decide +kernel
theorem dX6_indexBelow_33 : decode cX6_indexBelow 33 = .ok (.ireturn, 1) := by decide +kernel
theorem dX6_has_0 : decode cX6_has 0 = .ok (.aload_n 0, 1) := by decide +kernel
theorem dX6_has_1 : decode cX6_has 1 = .ok (.iload_n 1, 1) := by decide +kernel
theorem dX6_has_2 : decode cX6_has 2 = .ok (.invokevirtual 39, 3) := by decide +kernel
theorem dX6_has_5 : decode cX6_has 5 = .ok (.istore_n 2, 1) := by decide +kernel
theorem dX6_has_6 : decode cX6_has 6 = .ok (.iload_n 2, 1) := by decide +kernel
theorem dX6_has_7 : decode cX6_has 7 = .ok (.ifCond .lt 19, 3) := by decide +kernel
theorem dX6_has_10 : decode cX6_has 10 = .ok (.aload_n 0, 1) := by decide +kernel
theorem dX6_has_11 : decode cX6_has 11 = .ok (.getfield 19, 3) := by decide +kernel
theorem dX6_has_14 : decode cX6_has 14 = .ok (.iload_n 2, 1) := by decide +kernel
theorem dX6_has_15 : decode cX6_has 15 = .ok (.invokestatic 35, 3) := by decide +kernel
theorem dX6_has_18 : decode cX6_has 18 = .ok (.iload_n 1, 1) := by decide +kernel
theorem dX6_has_19 : decode cX6_has 19 = .ok (.if_icmp .ne 7, 3) := by decide +kernel
theorem dX6_has_22 : decode cX6_has 22 = .ok (.iconst 1, 1) := by decide +kernel
theorem dX6_has_23 : decode cX6_has 23 = .ok (.goto 4, 3) := by decide +kernel
theorem dX6_has_26 : decode cX6_has 26 = .ok (.iconst 0, 1) := by decide +kernel
theorem dX6_has_27 : decode cX6_has 27 = .ok (.ireturn, 1) := by decide +kernel
theorem dX6_hasRoomFor_0 : decode cX6_hasRoomFor 0 = .ok (.aload_n 0, 1) := by decide +kernel
theorem dX6_hasRoomFor_1 : decode cX6_hasRoomFor 1 = .ok (.getfield 7, 3) := by decide +kernel
theorem dX6_hasRoomFor_4 : decode cX6_hasRoomFor 4 = .ok (.aload_n 0, 1) := by decide +kernel
theorem dX6_hasRoomFor_5 : decode cX6_hasRoomFor 5 = .ok (.getfield 19, 3) := by decide +kernel
theorem dX6_hasRoomFor_8 : decode cX6_hasRoomFor 8 = .ok (.arraylength, 1) := by decide +kernel
theorem dX6_hasRoomFor_9 : decode cX6_hasRoomFor 9 = .ok (.if_icmp .lt 11, 3) := by decide +kernel
theorem dX6_hasRoomFor_12 : decode cX6_hasRoomFor 12 = .ok (.aload_n 0, 1) := by decide +kernel
theorem dX6_hasRoomFor_13 : decode cX6_hasRoomFor 13 = .ok (.iload_n 1, 1) := by decide +kernel
theorem dX6_hasRoomFor_14 : decode cX6_hasRoomFor 14 = .ok (.invokevirtual 43, 3) := by decide +kernel
theorem dX6_hasRoomFor_17 : decode cX6_hasRoomFor 17 = .ok (.ifCond .eq 7, 3) := by decide +kernel
theorem dX6_hasRoomFor_20 : decode cX6_hasRoomFor 20 = .ok (.iconst 1, 1) := by decide +kernel
theorem dX6_hasRoomFor_21 : decode cX6_hasRoomFor 21 = .ok (.goto 4, 3) := by decide +kernel
theorem dX6_hasRoomFor_24 : decode cX6_hasRoomFor 24 = .ok (.iconst 0, 1) := by decide +kernel
theorem dX6_hasRoomFor_25 : decode cX6_hasRoomFor 25 = .ok (.ireturn, 1) := by decide +kernel
theorem dX6_set_0 : decode cX6_set 0 = .ok (.aload_n 0, 1) := by decide +kernel
theorem dX6_set_1 : decode cX6_set 1 = .ok (.iload_n 1, 1) := by decide +kernel
theorem dX6_set_2 : decode cX6_set 2 = .ok (.invokevirtual 39, 3) := by decide +kernel
theorem dX6_set_5 : decode cX6_set 5 = .ok (.istore_n 3, 1) := by decide +kernel
theorem dX6_set_6 : decode cX6_set 6 = .ok (.iload_n 3, 1) := by decide +kernel
theorem dX6_set_7 : decode cX6_set 7 = .ok (.ifCond .lt 27, 3) := by decide +kernel
theorem dX6_set_10 : decode cX6_set 10 = .ok (.aload_n 0, 1) := by decide +kernel
theorem dX6_set_11 : decode cX6_set 11 = .ok (.getfield 19, 3) := by decide +kernel
theorem dX6_set_14 : decode cX6_set 14 = .ok (.iload_n 3, 1) := by decide +kernel
theorem dX6_set_15 : decode cX6_set 15 = .ok (.invokestatic 35, 3) := by decide +kernel
theorem dX6_set_18 : decode cX6_set 18 = .ok (.iload_n 1, 1) := by decide +kernel
theorem dX6_set_19 : decode cX6_set 19 = .ok (.if_icmp .ne 15, 3) := by decide +kernel
theorem dX6_set_22 : decode cX6_set 22 = .ok (.aload_n 0, 1) := by decide +kernel
theorem dX6_set_23 : decode cX6_set 23 = .ok (.getfield 23, 3) := by decide +kernel
theorem dX6_set_26 : decode cX6_set 26 = .ok (.iload_n 3, 1) := by decide +kernel
theorem dX6_set_27 : decode cX6_set 27 = .ok (.iload_n 2, 1) := by decide +kernel
theorem dX6_set_28 : decode cX6_set 28 = .ok (.invokestatic 47, 3) := by decide +kernel
theorem dX6_set_31 : decode cX6_set 31 = .ok (.goto 24, 3) := by decide +kernel
theorem dX6_set_34 : decode cX6_set 34 = .ok (.aload_n 0, 1) := by decide +kernel
theorem dX6_set_35 : decode cX6_set 35 = .ok (.getfield 7, 3) := by decide +kernel
theorem dX6_set_38 : decode cX6_set 38 = .ok (.aload_n 0, 1) := by decide +kernel
theorem dX6_set_39 : decode cX6_set 39 = .ok (.getfield 19, 3) := by decide +kernel
theorem dX6_set_42 : decode cX6_set 42 = .ok (.arraylength, 1) := by decide +kernel
theorem dX6_set_43 : decode cX6_set 43 = .ok (.if_icmp .ge 12, 3) := by decide +kernel
theorem dX6_set_46 : decode cX6_set 46 = .ok (.aload_n 0, 1) := by decide +kernel
theorem dX6_set_47 : decode cX6_set 47 = .ok (.iload_n 3, 1) := by decide +kernel
theorem dX6_set_48 : decode cX6_set 48 = .ok (.iconst 1, 1) := by decide +kernel
theorem dX6_set_49 : decode cX6_set 49 = .ok (.iadd, 1) := by decide +kernel
theorem dX6_set_50 : decode cX6_set 50 = .ok (.iload_n 1, 1) := by decide +kernel
theorem dX6_set_51 : decode cX6_set 51 = .ok (.iload_n 2, 1) := by decide +kernel
theorem dX6_set_52 : decode cX6_set 52 = .ok (.invokevirtual 51, 3) := by decide +kernel
theorem dX6_set_55 : decode cX6_set 55 = .ok (.return_, 1) := by decide +kernel
theorem dX6_insert_0 : decode cX6_insert 0 = .ok (.aload_n 0, 1) := by decide +kernel
theorem dX6_insert_1 : decode cX6_insert 1 = .ok (.getfield 7, 3) := by decide +kernel
theorem dX6_insert_4 : decode cX6_insert 4 = .ok (.istore 4, 2) := by decide +kernel
theorem dX6_insert_6 : decode cX6_insert 6 = .ok (.iload 4, 2) := by decide +kernel
theorem dX6_insert_8 : decode cX6_insert 8 = .ok (.iload_n 1, 1) := by decide +kernel
theorem dX6_insert_9 : decode cX6_insert 9 = .ok (.if_icmp .le 49, 3) := by decide +kernel
theorem dX6_insert_12 : decode cX6_insert 12 = .ok (.aload_n 0, 1) := by decide +kernel
theorem dX6_insert_13 : decode cX6_insert 13 = .ok (.getfield 19, 3) := by decide +kernel
theorem dX6_insert_16 : decode cX6_insert 16 = .ok (.iload 4, 2) := by decide +kernel
theorem dX6_insert_18 : decode cX6_insert 18 = .ok (.aload_n 0, 1) := by decide +kernel
theorem dX6_insert_19 : decode cX6_insert 19 = .ok (.getfield 19, 3) := by decide +kernel
theorem dX6_insert_22 : decode cX6_insert 22 = .ok (.iload 4, 2) := by decide +kernel
theorem dX6_insert_24 : decode cX6_insert 24 = .ok (.iconst 1, 1) := by decide +kernel
theorem dX6_insert_25 : decode cX6_insert 25 = .ok (.isub, 1) := by decide +kernel
theorem dX6_insert_26 : decode cX6_insert 26 = .ok (.invokestatic 35, 3) := by decide +kernel
theorem dX6_insert_29 : decode cX6_insert 29 = .ok (.invokestatic 47, 3) := by decide +kernel
theorem dX6_insert_32 : decode cX6_insert 32 = .ok (.aload_n 0, 1) := by decide +kernel
theorem dX6_insert_33 : decode cX6_insert 33 = .ok (.getfield 23, 3) := by decide +kernel
theorem dX6_insert_36 : decode cX6_insert 36 = .ok (.iload 4, 2) := by decide +kernel
theorem dX6_insert_38 : decode cX6_insert 38 = .ok (.aload_n 0, 1) := by decide +kernel
theorem dX6_insert_39 : decode cX6_insert 39 = .ok (.getfield 23, 3) := by decide +kernel
theorem dX6_insert_42 : decode cX6_insert 42 = .ok (.iload 4, 2) := by decide +kernel
theorem dX6_insert_44 : decode cX6_insert 44 = .ok (.iconst 1, 1) := by decide +kernel
theorem dX6_insert_45 : decode cX6_insert 45 = .ok (.isub, 1) := by decide +kernel
theorem dX6_insert_46 : decode cX6_insert 46 = .ok (.invokestatic 35, 3) := by decide +kernel
theorem dX6_insert_49 : decode cX6_insert 49 = .ok (.invokestatic 47, 3) := by decide +kernel
theorem dX6_insert_52 : decode cX6_insert 52 = .ok (.iinc 4 (-1), 3) := by decide +kernel
theorem dX6_insert_55 : decode cX6_insert 55 = .ok (.goto (-49), 3) := by decide +kernel
theorem dX6_insert_58 : decode cX6_insert 58 = .ok (.aload_n 0, 1) := by decide +kernel
theorem dX6_insert_59 : decode cX6_insert 59 = .ok (.getfield 19, 3) := by decide +kernel
theorem dX6_insert_62 : decode cX6_insert 62 = .ok (.iload_n 1, 1) := by decide +kernel
theorem dX6_insert_63 : decode cX6_insert 63 = .ok (.iload_n 2, 1) := by decide +kernel
theorem dX6_insert_64 : decode cX6_insert 64 = .ok (.invokestatic 47, 3) := by decide +kernel
theorem dX6_insert_67 : decode cX6_insert 67 = .ok (.aload_n 0, 1) := by decide +kernel
theorem dX6_insert_68 : decode cX6_insert 68 = .ok (.getfield 23, 3) := by decide +kernel
theorem dX6_insert_71 : decode cX6_insert 71 = .ok (.iload_n 1, 1) := by decide +kernel
theorem dX6_insert_72 : decode cX6_insert 72 = .ok (.iload_n 3, 1) := by decide +kernel
theorem dX6_insert_73 : decode cX6_insert 73 = .ok (.invokestatic 47, 3) := by decide +kernel
theorem dX6_insert_76 : decode cX6_insert 76 = .ok (.aload_n 0, 1) := by decide +kernel
theorem dX6_insert_77 : decode cX6_insert 77 = .ok (.dup, 1) := by decide +kernel
theorem dX6_insert_78 : decode cX6_insert 78 = .ok (.getfield 7, 3) := by decide +kernel
theorem dX6_insert_81 : decode cX6_insert 81 = .ok (.iconst 1, 1) := by decide +kernel
theorem dX6_insert_82 : decode cX6_insert 82 = .ok (.iadd, 1) := by decide +kernel
theorem dX6_insert_83 : decode cX6_insert 83 = .ok (.putfield 7, 3) := by decide +kernel
theorem dX6_insert_86 : decode cX6_insert 86 = .ok (.return_, 1) := by decide +kernel
theorem dX6_remove_0 : decode cX6_remove 0 = .ok (.aload_n 0, 1) := by decide +kernel
theorem dX6_remove_1 : decode cX6_remove 1 = .ok (.iload_n 1, 1) := by decide +kernel
theorem dX6_remove_2 : decode cX6_remove 2 = .ok (.invokevirtual 43, 3) := by decide +kernel
theorem dX6_remove_5 : decode cX6_remove 5 = .ok (.ifCond .ne 4, 3) := by decide +kernel
theorem dX6_remove_8 : decode cX6_remove 8 = .ok (.return_, 1) := by decide +kernel
theorem dX6_remove_9 : decode cX6_remove 9 = .ok (.aload_n 0, 1) := by decide +kernel
theorem dX6_remove_10 : decode cX6_remove 10 = .ok (.iload_n 1, 1) := by decide +kernel
theorem dX6_remove_11 : decode cX6_remove 11 = .ok (.invokevirtual 39, 3) := by decide +kernel
theorem dX6_remove_14 : decode cX6_remove 14 = .ok (.istore_n 2, 1) := by decide +kernel
theorem dX6_remove_15 : decode cX6_remove 15 = .ok (.iload_n 2, 1) := by decide +kernel
theorem dX6_remove_16 : decode cX6_remove 16 = .ok (.aload_n 0, 1) := by decide +kernel
theorem dX6_remove_17 : decode cX6_remove 17 = .ok (.getfield 7, 3) := by decide +kernel
theorem dX6_remove_20 : decode cX6_remove 20 = .ok (.iconst 1, 1) := by decide +kernel
theorem dX6_remove_21 : decode cX6_remove 21 = .ok (.isub, 1) := by decide +kernel
theorem dX6_remove_22 : decode cX6_remove 22 = .ok (.if_icmp .ge 45, 3) := by decide +kernel
theorem dX6_remove_25 : decode cX6_remove 25 = .ok (.aload_n 0, 1) := by decide +kernel
theorem dX6_remove_26 : decode cX6_remove 26 = .ok (.getfield 19, 3) := by decide +kernel
theorem dX6_remove_29 : decode cX6_remove 29 = .ok (.iload_n 2, 1) := by decide +kernel
theorem dX6_remove_30 : decode cX6_remove 30 = .ok (.aload_n 0, 1) := by decide +kernel
theorem dX6_remove_31 : decode cX6_remove 31 = .ok (.getfield 19, 3) := by decide +kernel
theorem dX6_remove_34 : decode cX6_remove 34 = .ok (.iload_n 2, 1) := by decide +kernel
theorem dX6_remove_35 : decode cX6_remove 35 = .ok (.iconst 1, 1) := by decide +kernel
theorem dX6_remove_36 : decode cX6_remove 36 = .ok (.iadd, 1) := by decide +kernel
theorem dX6_remove_37 : decode cX6_remove 37 = .ok (.invokestatic 35, 3) := by decide +kernel
theorem dX6_remove_40 : decode cX6_remove 40 = .ok (.invokestatic 47, 3) := by decide +kernel
theorem dX6_remove_43 : decode cX6_remove 43 = .ok (.aload_n 0, 1) := by decide +kernel
theorem dX6_remove_44 : decode cX6_remove 44 = .ok (.getfield 23, 3) := by decide +kernel
theorem dX6_remove_47 : decode cX6_remove 47 = .ok (.iload_n 2, 1) := by decide +kernel
theorem dX6_remove_48 : decode cX6_remove 48 = .ok (.aload_n 0, 1) := by decide +kernel
theorem dX6_remove_49 : decode cX6_remove 49 = .ok (.getfield 23, 3) := by decide +kernel
theorem dX6_remove_52 : decode cX6_remove 52 = .ok (.iload_n 2, 1) := by decide +kernel
theorem dX6_remove_53 : decode cX6_remove 53 = .ok (.iconst 1, 1) := by decide +kernel
theorem dX6_remove_54 : decode cX6_remove 54 = .ok (.iadd, 1) := by decide +kernel
theorem dX6_remove_55 : decode cX6_remove 55 = .ok (.invokestatic 35, 3) := by decide +kernel
theorem dX6_remove_58 : decode cX6_remove 58 = .ok (.invokestatic 47, 3) := by decide +kernel
theorem dX6_remove_61 : decode cX6_remove 61 = .ok (.iinc 2 1, 3) := by decide +kernel
theorem dX6_remove_64 : decode cX6_remove 64 = .ok (.goto (-49), 3) := by decide +kernel
theorem dX6_remove_67 : decode cX6_remove 67 = .ok (.aload_n 0, 1) := by decide +kernel
theorem dX6_remove_68 : decode cX6_remove 68 = .ok (.dup, 1) := by decide +kernel
theorem dX6_remove_69 : decode cX6_remove 69 = .ok (.getfield 7, 3) := by decide +kernel
theorem dX6_remove_72 : decode cX6_remove 72 = .ok (.iconst 1, 1) := by decide +kernel
theorem dX6_remove_73 : decode cX6_remove 73 = .ok (.isub, 1) := by decide +kernel
theorem dX6_remove_74 : decode cX6_remove 74 = .ok (.putfield 7, 3) := by decide +kernel
theorem dX6_remove_77 : decode cX6_remove 77 = .ok (.return_, 1) := by decide +kernel
theorem dX6_valueBelow_0 : decode cX6_valueBelow 0 = .ok (.aload_n 0, 1) := by decide +kernel
theorem dX6_valueBelow_1 : decode cX6_valueBelow 1 = .ok (.iload_n 1, 1) := by decide +kernel
theorem dX6_valueBelow_2 : decode cX6_valueBelow 2 = .ok (.invokevirtual 39, 3) := by decide +kernel
theorem dX6_valueBelow_5 : decode cX6_valueBelow 5 = .ok (.istore_n 2, 1) := by decide +kernel
theorem dX6_valueBelow_6 : decode cX6_valueBelow 6 = .ok (.iload_n 2, 1) := by decide +kernel
theorem dX6_valueBelow_7 : decode cX6_valueBelow 7 = .ok (.ifCond .ge 7, 3) := by decide +kernel
theorem dX6_valueBelow_10 : decode cX6_valueBelow 10 = .ok (.iconst 0, 1) := by decide +kernel
theorem dX6_valueBelow_11 : decode cX6_valueBelow 11 = .ok (.goto 11, 3) := by decide +kernel
theorem dX6_valueBelow_14 : decode cX6_valueBelow 14 = .ok (.aload_n 0, 1) := by decide +kernel
theorem dX6_valueBelow_15 : decode cX6_valueBelow 15 = .ok (.getfield 23, 3) := by decide +kernel
theorem dX6_valueBelow_18 : decode cX6_valueBelow 18 = .ok (.iload_n 2, 1) := by decide +kernel
theorem dX6_valueBelow_19 : decode cX6_valueBelow 19 = .ok (.invokestatic 35, 3) := by decide +kernel
theorem dX6_valueBelow_22 : decode cX6_valueBelow 22 = .ok (.ireturn, 1) := by decide +kernel
theorem dX6_valueOnLine_0 : decode cX6_valueOnLine 0 = .ok (.aload_n 0, 1) := by decide +kernel
theorem dX6_valueOnLine_1 : decode cX6_valueOnLine 1 = .ok (.iload_n 1, 1) := by decide +kernel
theorem dX6_valueOnLine_2 : decode cX6_valueOnLine 2 = .ok (.invokevirtual 39, 3) := by decide +kernel
theorem dX6_valueOnLine_5 : decode cX6_valueOnLine 5 = .ok (.istore_n 2, 1) := by decide +kernel
theorem dX6_valueOnLine_6 : decode cX6_valueOnLine 6 = .ok (.iload_n 2, 1) := by decide +kernel
theorem dX6_valueOnLine_7 : decode cX6_valueOnLine 7 = .ok (.ifCond .ge 12, 3) := by decide +kernel
theorem dX6_valueOnLine_10 : decode cX6_valueOnLine 10 = .ok (.aload_n 0, 1) := by decide +kernel
theorem dX6_valueOnLine_11 : decode cX6_valueOnLine 11 = .ok (.getfield 23, 3) := by decide +kernel
theorem dX6_valueOnLine_14 : decode cX6_valueOnLine 14 = .ok (.iconst 0, 1) := by decide +kernel
theorem dX6_valueOnLine_15 : decode cX6_valueOnLine 15 = .ok (.invokestatic 35, 3) := by decide +kernel
theorem dX6_valueOnLine_18 : decode cX6_valueOnLine 18 = .ok (.ireturn, 1) := by decide +kernel
theorem dX6_valueOnLine_19 : decode cX6_valueOnLine 19 = .ok (.aload_n 0, 1) := by decide +kernel
theorem dX6_valueOnLine_20 : decode cX6_valueOnLine 20 = .ok (.getfield 23, 3) := by decide +kernel
theorem dX6_valueOnLine_23 : decode cX6_valueOnLine 23 = .ok (.iload_n 2, 1) := by decide +kernel
theorem dX6_valueOnLine_24 : decode cX6_valueOnLine 24 = .ok (.invokestatic 35, 3) := by decide +kernel
theorem dX6_valueOnLine_27 : decode cX6_valueOnLine 27 = .ok (.istore_n 3, 1) := by decide +kernel
theorem dX6_valueOnLine_28 : decode cX6_valueOnLine 28 = .ok (.iload_n 2, 1) := by decide +kernel
theorem dX6_valueOnLine_29 : decode cX6_valueOnLine 29 = .ok (.aload_n 0, 1) := by decide +kernel
theorem dX6_valueOnLine_30 : decode cX6_valueOnLine 30 = .ok (.getfield 7, 3) := by decide +kernel
theorem dX6_valueOnLine_33 : decode cX6_valueOnLine 33 = .ok (.iconst 1, 1) := by decide +kernel
theorem dX6_valueOnLine_34 : decode cX6_valueOnLine 34 = .ok (.isub, 1) := by decide +kernel
theorem dX6_valueOnLine_35 : decode cX6_valueOnLine 35 = .ok (.if_icmp .lt 5, 3) := by decide +kernel
theorem dX6_valueOnLine_38 : decode cX6_valueOnLine 38 = .ok (.iload_n 3, 1) := by decide +kernel
theorem dX6_valueOnLine_39 : decode cX6_valueOnLine 39 = .ok (.ireturn, 1) := by decide +kernel
theorem dX6_valueOnLine_40 : decode cX6_valueOnLine 40 = .ok (.aload_n 0, 1) := by decide +kernel
theorem dX6_valueOnLine_41 : decode cX6_valueOnLine 41 = .ok (.getfield 23, 3) := by decide +kernel
theorem dX6_valueOnLine_44 : decode cX6_valueOnLine 44 = .ok (.iload_n 2, 1) := by decide +kernel
theorem dX6_valueOnLine_45 : decode cX6_valueOnLine 45 = .ok (.iconst 1, 1) := by decide +kernel
theorem dX6_valueOnLine_46 : decode cX6_valueOnLine 46 = .ok (.iadd, 1) := by decide +kernel
theorem dX6_valueOnLine_47 : decode cX6_valueOnLine 47 = .ok (.invokestatic 35, 3) := by decide +kernel
theorem dX6_valueOnLine_50 : decode cX6_valueOnLine 50 = .ok (.iload_n 3, 1) := by decide +kernel
theorem dX6_valueOnLine_51 : decode cX6_valueOnLine 51 = .ok (.isub, 1) := by decide +kernel
theorem dX6_valueOnLine_52 : decode cX6_valueOnLine 52 = .ok (.istore 4, 2) := by decide +kernel
theorem dX6_valueOnLine_54 : decode cX6_valueOnLine 54 = .ok (.aload_n 0, 1) := by decide +kernel
theorem dX6_valueOnLine_55 : decode cX6_valueOnLine 55 = .ok (.getfield 19, 3) := by decide +kernel
theorem dX6_valueOnLine_58 : decode cX6_valueOnLine 58 = .ok (.iload_n 2, 1) := by decide +kernel
theorem dX6_valueOnLine_59 : decode cX6_valueOnLine 59 = .ok (.iconst 1, 1) := by decide +kernel
theorem dX6_valueOnLine_60 : decode cX6_valueOnLine 60 = .ok (.iadd, 1) := by decide +kernel
theorem dX6_valueOnLine_61 : decode cX6_valueOnLine 61 = .ok (.invokestatic 35, 3) := by decide +kernel
theorem dX6_valueOnLine_64 : decode cX6_valueOnLine 64 = .ok (.aload_n 0, 1) := by decide +kernel
theorem dX6_valueOnLine_65 : decode cX6_valueOnLine 65 = .ok (.getfield 19, 3) := by decide +kernel
theorem dX6_valueOnLine_68 : decode cX6_valueOnLine 68 = .ok (.iload_n 2, 1) := by decide +kernel
theorem dX6_valueOnLine_69 : decode cX6_valueOnLine 69 = .ok (.invokestatic 35, 3) := by decide +kernel
theorem dX6_valueOnLine_72 : decode cX6_valueOnLine 72 = .ok (.isub, 1) := by decide +kernel
theorem dX6_valueOnLine_73 : decode cX6_valueOnLine 73 = .ok (.istore 5, 2) := by decide +kernel
theorem dX6_valueOnLine_75 : decode cX6_valueOnLine 75 = .ok (.iload_n 3, 1) := by decide +kernel
theorem dX6_valueOnLine_76 : decode cX6_valueOnLine 76 = .ok (.iload 4, 2) := by decide +kernel
theorem dX6_valueOnLine_78 : decode cX6_valueOnLine 78 = .ok (.iload_n 1, 1) := by decide +kernel
theorem dX6_valueOnLine_79 : decode cX6_valueOnLine 79 = .ok (.aload_n 0, 1) := by decide +kernel
theorem dX6_valueOnLine_80 : decode cX6_valueOnLine 80 = .ok (.getfield 19, 3) := by decide +kernel
theorem dX6_valueOnLine_83 : decode cX6_valueOnLine 83 = .ok (.iload_n 2, 1) := by decide +kernel
theorem dX6_valueOnLine_84 : decode cX6_valueOnLine 84 = .ok (.invokestatic 35, 3) := by decide +kernel
theorem dX6_valueOnLine_87 : decode cX6_valueOnLine 87 = .ok (.isub, 1) := by decide +kernel
theorem dX6_valueOnLine_88 : decode cX6_valueOnLine 88 = .ok (.imul, 1) := by decide +kernel
theorem dX6_valueOnLine_89 : decode cX6_valueOnLine 89 = .ok (.i2l, 1) := by decide +kernel
theorem dX6_valueOnLine_90 : decode cX6_valueOnLine 90 = .ok (.iload 5, 2) := by decide +kernel
theorem dX6_valueOnLine_92 : decode cX6_valueOnLine 92 = .ok (.i2l, 1) := by decide +kernel
theorem dX6_valueOnLine_93 : decode cX6_valueOnLine 93 = .ok (.invokestatic 55, 3) := by decide +kernel
theorem dX6_valueOnLine_96 : decode cX6_valueOnLine 96 = .ok (.l2i, 1) := by decide +kernel
theorem dX6_valueOnLine_97 : decode cX6_valueOnLine 97 = .ok (.iadd, 1) := by decide +kernel
theorem dX6_valueOnLine_98 : decode cX6_valueOnLine 98 = .ok (.ireturn, 1) := by decide +kernel
theorem dX7_init_0 : decode cX7_init 0 = .ok (.aload_n 0, 1) := by decide +kernel
theorem dX7_init_1 : decode cX7_init 1 = .ok (.invokespecial 3, 3) := by decide +kernel
theorem dX7_init_4 : decode cX7_init 4 = .ok (.aload_n 0, 1) := by decide +kernel
theorem dX7_init_5 : decode cX7_init 5 = .ok (.new 9, 3) := by decide +kernel
theorem dX7_init_8 : decode cX7_init 8 = .ok (.dup, 1) := by decide +kernel
theorem dX7_init_9 : decode cX7_init 9 = .ok (.invokespecial 11, 3) := by decide +kernel
theorem dX7_init_12 : decode cX7_init 12 = .ok (.putfield 12, 3) := by decide +kernel
theorem dX7_init_15 : decode cX7_init 15 = .ok (.aload_n 0, 1) := by decide +kernel
theorem dX7_init_16 : decode cX7_init 16 = .ok (.new 18, 3) := by decide +kernel
theorem dX7_init_19 : decode cX7_init 19 = .ok (.dup, 1) := by decide +kernel
theorem dX7_init_20 : decode cX7_init 20 = .ok (.bipush 8, 2) := by decide +kernel
theorem dX7_init_22 : decode cX7_init 22 = .ok (.invokespecial 20, 3) := by decide +kernel
theorem dX7_init_25 : decode cX7_init 25 = .ok (.putfield 23, 3) := by decide +kernel
theorem dX7_init_28 : decode cX7_init 28 = .ok (.aload_n 0, 1) := by decide +kernel
theorem dX7_init_29 : decode cX7_init 29 = .ok (.new 18, 3) := by decide +kernel
theorem dX7_init_32 : decode cX7_init 32 = .ok (.dup, 1) := by decide +kernel
theorem dX7_init_33 : decode cX7_init 33 = .ok (.bipush 6, 2) := by decide +kernel
theorem dX7_init_35 : decode cX7_init 35 = .ok (.invokespecial 20, 3) := by decide +kernel
theorem dX7_init_38 : decode cX7_init 38 = .ok (.putfield 27, 3) := by decide +kernel
theorem dX7_init_41 : decode cX7_init 41 = .ok (.aload_n 0, 1) := by decide +kernel
theorem dX7_init_42 : decode cX7_init 42 = .ok (.new 30, 3) := by decide +kernel
theorem dX7_init_45 : decode cX7_init 45 = .ok (.dup, 1) := by decide +kernel
theorem dX7_init_46 : decode cX7_init 46 = .ok (.invokespecial 32, 3) := by decide +kernel
theorem dX7_init_49 : decode cX7_init 49 = .ok (.putfield 33, 3) := by decide +kernel
theorem dX7_init_52 : decode cX7_init 52 = .ok (.return_, 1) := by decide +kernel
theorem dX7_copyFrom_0 : decode cX7_copyFrom 0 = .ok (.aload_n 0, 1) := by decide +kernel
theorem dX7_copyFrom_1 : decode cX7_copyFrom 1 = .ok (.getfield 12, 3) := by decide +kernel
theorem dX7_copyFrom_4 : decode cX7_copyFrom 4 = .ok (.aload_n 1, 1) := by decide +kernel
theorem dX7_copyFrom_5 : decode cX7_copyFrom 5 = .ok (.getfield 12, 3) := by decide +kernel
theorem dX7_copyFrom_8 : decode cX7_copyFrom 8 = .ok (.invokevirtual 37, 3) := by decide +kernel
theorem dX7_copyFrom_11 : decode cX7_copyFrom 11 = .ok (.aload_n 0, 1) := by decide +kernel
theorem dX7_copyFrom_12 : decode cX7_copyFrom 12 = .ok (.getfield 23, 3) := by decide +kernel
theorem dX7_copyFrom_15 : decode cX7_copyFrom 15 = .ok (.aload_n 1, 1) := by decide +kernel
theorem dX7_copyFrom_16 : decode cX7_copyFrom 16 = .ok (.getfield 23, 3) := by decide +kernel
theorem dX7_copyFrom_19 : decode cX7_copyFrom 19 = .ok (.invokevirtual 41, 3) := by decide +kernel
theorem dX7_copyFrom_22 : decode cX7_copyFrom 22 = .ok (.aload_n 0, 1) := by decide +kernel
theorem dX7_copyFrom_23 : decode cX7_copyFrom 23 = .ok (.getfield 27, 3) := by decide +kernel
theorem dX7_copyFrom_26 : decode cX7_copyFrom 26 = .ok (.aload_n 1, 1) := by decide +kernel
theorem dX7_copyFrom_27 : decode cX7_copyFrom 27 = .ok (.getfield 27, 3) := by decide +kernel
theorem dX7_copyFrom_30 : decode cX7_copyFrom 30 = .ok (.invokevirtual 41, 3) := by decide +kernel
theorem dX7_copyFrom_33 : decode cX7_copyFrom 33 = .ok (.aload_n 0, 1) := by decide +kernel
theorem dX7_copyFrom_34 : decode cX7_copyFrom 34 = .ok (.getfield 33, 3) := by decide +kernel
theorem dX7_copyFrom_37 : decode cX7_copyFrom 37 = .ok (.aload_n 1, 1) := by decide +kernel
theorem dX7_copyFrom_38 : decode cX7_copyFrom 38 = .ok (.getfield 33, 3) := by decide +kernel
theorem dX7_copyFrom_41 : decode cX7_copyFrom 41 = .ok (.invokevirtual 44, 3) := by decide +kernel
theorem dX7_copyFrom_44 : decode cX7_copyFrom 44 = .ok (.return_, 1) := by decide +kernel
theorem dX8_init_0 : decode cX8_init 0 = .ok (.aload_n 0, 1) := by decide +kernel
theorem dX8_init_1 : decode cX8_init 1 = .ok (.invokespecial 3, 3) := by decide +kernel
theorem dX8_init_4 : decode cX8_init 4 = .ok (.aload_n 0, 1) := by decide +kernel
theorem dX8_init_5 : decode cX8_init 5 = .ok (.bipush 100, 2) := by decide +kernel
theorem dX8_init_7 : decode cX8_init 7 = .ok (.newarray .int, 2) := by decide +kernel
theorem dX8_init_9 : decode cX8_init 9 = .ok (.putfield 9, 3) := by decide +kernel
theorem dX8_init_12 : decode cX8_init 12 = .ok (.aload_n 0, 1) := by decide +kernel
theorem dX8_init_13 : decode cX8_init 13 = .ok (.iconst 0, 1) := by decide +kernel
theorem dX8_init_14 : decode cX8_init 14 = .ok (.putfield 15, 3) := by decide +kernel
theorem dX8_init_17 : decode cX8_init 17 = .ok (.return_, 1) := by decide +kernel
theorem dX8_add_0 : decode cX8_add 0 = .ok (.aload_n 0, 1) := by decide +kernel
theorem dX8_add_1 : decode cX8_add 1 = .ok (.getfield 15, 3) := by decide +kernel
theorem dX8_add_4 : decode cX8_add 4 = .ok (.bipush 100, 2) := by decide +kernel
theorem dX8_add_6 : decode cX8_add 6 = .ok (.if_icmp .ge 25, 3) := by decide +kernel
theorem dX8_add_9 : decode cX8_add 9 = .ok (.aload_n 0, 1) := by decide +kernel
theorem dX8_add_10 : decode cX8_add 10 = .ok (.getfield 9, 3) := by decide +kernel
theorem dX8_add_13 : decode cX8_add 13 = .ok (.aload_n 0, 1) := by decide +kernel
theorem dX8_add_14 : decode cX8_add 14 = .ok (.getfield 15, 3) := by decide +kernel
theorem dX8_add_17 : decode cX8_add 17 = .ok (.iload_n 1, 1) := by decide +kernel
theorem dX8_add_18 : decode cX8_add 18 = .ok (.invokestatic 19, 3) := by decide +kernel
theorem dX8_add_21 : decode cX8_add 21 = .ok (.aload_n 0, 1) := by decide +kernel
theorem dX8_add_22 : decode cX8_add 22 = .ok (.dup, 1) := by decide +kernel
theorem dX8_add_23 : decode cX8_add 23 = .ok (.getfield 15, 3) := by decide +kernel
theorem dX8_add_26 : decode cX8_add 26 = .ok (.iconst 1, 1) := by decide +kernel
theorem dX8_add_27 : decode cX8_add 27 = .ok (.iadd, 1) := by decide +kernel
theorem dX8_add_28 : decode cX8_add 28 = .ok (.putfield 15, 3) := by decide +kernel
theorem dX8_add_31 : decode cX8_add 31 = .ok (.return_, 1) := by decide +kernel
theorem dX8_character_0 : decode cX8_character 0 = .ok (.iload_n 1, 1) := by decide +kernel
theorem dX8_character_1 : decode cX8_character 1 = .ok (.aload_n 0, 1) := by decide +kernel
theorem dX8_character_2 : decode cX8_character 2 = .ok (.getfield 15, 3) := by decide +kernel
theorem dX8_character_5 : decode cX8_character 5 = .ok (.if_icmp .ge 14, 3) := by decide +kernel
theorem dX8_character_8 : decode cX8_character 8 = .ok (.aload_n 0, 1) := by decide +kernel
theorem dX8_character_9 : decode cX8_character 9 = .ok (.getfield 9, 3) := by decide +kernel
theorem dX8_character_12 : decode cX8_character 12 = .ok (.iload_n 1, 1) := by decide +kernel
theorem dX8_character_13 : decode cX8_character 13 = .ok (.invokestatic 23, 3) := by decide +kernel
theorem dX8_character_16 : decode cX8_character 16 = .ok (.goto 4, 3) := by decide +kernel
theorem dX8_character_19 : decode cX8_character 19 = .ok (.iconst 0, 1) := by decide +kernel
theorem dX8_character_20 : decode cX8_character 20 = .ok (.ireturn, 1) := by decide +kernel
theorem dX8_isDigit_0 : decode cX8_isDigit 0 = .ok (.aload_n 0, 1) := by decide +kernel
theorem dX8_isDigit_1 : decode cX8_isDigit 1 = .ok (.iload_n 1, 1) := by decide +kernel
theorem dX8_isDigit_2 : decode cX8_isDigit 2 = .ok (.invokevirtual 27, 3) := by decide +kernel
theorem dX8_isDigit_5 : decode cX8_isDigit 5 = .ok (.bipush 48, 2) := by decide +kernel
theorem dX8_isDigit_7 : decode cX8_isDigit 7 = .ok (.bipush 57, 2) := by decide +kernel
theorem dX8_isDigit_9 : decode cX8_isDigit 9 = .ok (.invokestatic 31, 3) := by decide +kernel
theorem dX8_isDigit_12 : decode cX8_isDigit 12 = .ok (.ireturn, 1) := by decide +kernel
theorem dX8_afterSpaces_0 : decode cX8_afterSpaces 0 = .ok (.iload_n 1, 1) := by decide +kernel
theorem dX8_afterSpaces_1 : decode cX8_afterSpaces 1 = .ok (.istore_n 2, 1) := by decide +kernel
theorem dX8_afterSpaces_2 : decode cX8_afterSpaces 2 = .ok (.iconst 0, 1) := by decide +kernel
theorem dX8_afterSpaces_3 : decode cX8_afterSpaces 3 = .ok (.istore_n 3, 1) := by decide +kernel
theorem dX8_afterSpaces_4 : decode cX8_afterSpaces 4 = .ok (.iload_n 3, 1) := by decide +kernel
theorem dX8_afterSpaces_5 : decode cX8_afterSpaces 5 = .ok (.bipush 100, 2) := by decide +kernel
theorem dX8_afterSpaces_7 : decode cX8_afterSpaces 7 = .ok (.if_icmp .ge 22, 3) := by decide +kernel
theorem dX8_afterSpaces_10 : decode cX8_afterSpaces 10 = .ok (.aload_n 0, 1) := by decide +kernel
theorem dX8_afterSpaces_11 : decode cX8_afterSpaces 11 = .ok (.iload_n 2, 1) := by decide +kernel
theorem dX8_afterSpaces_12 : decode cX8_afterSpaces 12 = .ok (.invokevirtual 27, 3) := by decide +kernel
theorem dX8_afterSpaces_15 : decode cX8_afterSpaces 15 = .ok (.bipush 32, 2) := by decide +kernel
theorem dX8_afterSpaces_17 : decode cX8_afterSpaces 17 = .ok (.if_icmp .ne 12, 3) := by decide +kernel
theorem dX8_afterSpaces_20 : decode cX8_afterSpaces 20 = .ok (.iinc 2 1, 3) := by decide +kernel
theorem dX8_afterSpaces_23 : decode cX8_afterSpaces 23 = .ok (.iinc 3 1, 3) := by decide +kernel
theorem dX8_afterSpaces_26 : decode cX8_afterSpaces 26 = .ok (.goto (-22), 3) := by decide +kernel
theorem dX8_afterSpaces_29 : decode cX8_afterSpaces 29 = .ok (.iload_n 2, 1) := by decide +kernel
theorem dX8_afterSpaces_30 : decode cX8_afterSpaces 30 = .ok (.ireturn, 1) := by decide +kernel
theorem dX8_afterToken_0 : decode cX8_afterToken 0 = .ok (.iload_n 1, 1) := by decide +kernel
theorem dX8_afterToken_1 : decode cX8_afterToken 1 = .ok (.iconst 1, 1) := by decide +kernel
theorem dX8_afterToken_2 : decode cX8_afterToken 2 = .ok (.iadd, 1) := by decide +kernel
theorem dX8_afterToken_3 : decode cX8_afterToken 3 = .ok (.istore_n 2, 1) := by decide +kernel
theorem dX8_afterToken_4 : decode cX8_afterToken 4 = .ok (.iconst 0, 1) := by decide +kernel
theorem dX8_afterToken_5 : decode cX8_afterToken 5 = .ok (.istore_n 3, 1) := by decide +kernel
theorem dX8_afterToken_6 : decode cX8_afterToken 6 = .ok (.iload_n 3, 1) := by decide +kernel
theorem dX8_afterToken_7 : decode cX8_afterToken 7 = .ok (.bipush 100, 2) := by decide +kernel
theorem dX8_afterToken_9 : decode cX8_afterToken 9 = .ok (.if_icmp .ge 28, 3) := by decide +kernel
theorem dX8_afterToken_12 : decode cX8_afterToken 12 = .ok (.aload_n 0, 1) := by decide +kernel
theorem dX8_afterToken_13 : decode cX8_afterToken 13 = .ok (.iload_n 1, 1) := by decide +kernel
theorem dX8_afterToken_14 : decode cX8_afterToken 14 = .ok (.invokevirtual 35, 3) := by decide +kernel
theorem dX8_afterToken_17 : decode cX8_afterToken 17 = .ok (.ifCond .eq 20, 3) := by decide +kernel
theorem dX8_afterToken_20 : decode cX8_afterToken 20 = .ok (.aload_n 0, 1) := by decide +kernel
theorem dX8_afterToken_21 : decode cX8_afterToken 21 = .ok (.iload_n 2, 1) := by decide +kernel
theorem dX8_afterToken_22 : decode cX8_afterToken 22 = .ok (.invokevirtual 35, 3) := by decide +kernel
theorem dX8_afterToken_25 : decode cX8_afterToken 25 = .ok (.ifCond .eq 12, 3) := by decide +kernel
theorem dX8_afterToken_28 : decode cX8_afterToken 28 = .ok (.iinc 2 1, 3) := by decide +kernel
theorem dX8_afterToken_31 : decode cX8_afterToken 31 = .ok (.iinc 3 1, 3) := by decide +kernel
theorem dX8_afterToken_34 : decode cX8_afterToken 34 = .ok (.goto (-28), 3) := by decide +kernel
theorem dX8_afterToken_37 : decode cX8_afterToken 37 = .ok (.iload_n 2, 1) := by decide +kernel
theorem dX8_afterToken_38 : decode cX8_afterToken 38 = .ok (.ireturn, 1) := by decide +kernel
theorem dX8_numberIn_0 : decode cX8_numberIn 0 = .ok (.aload_n 0, 1) := by decide +kernel
theorem dX8_numberIn_1 : decode cX8_numberIn 1 = .ok (.iload_n 1, 1) := by decide +kernel
theorem dX8_numberIn_2 : decode cX8_numberIn 2 = .ok (.invokevirtual 35, 3) := by decide +kernel
theorem dX8_numberIn_5 : decode cX8_numberIn 5 = .ok (.ifCond .eq 20, 3) := by decide +kernel
theorem dX8_numberIn_8 : decode cX8_numberIn 8 = .ok (.aload_n 0, 1) := by decide +kernel
theorem dX8_numberIn_9 : decode cX8_numberIn 9 = .ok (.iload_n 1, 1) := by decide +kernel
theorem dX8_numberIn_10 : decode cX8_numberIn 10 = .ok (.invokevirtual 27, 3) := by decide +kernel
theorem dX8_numberIn_13 : decode cX8_numberIn 13 = .ok (.bipush 48, 2) := by decide +kernel
theorem dX8_numberIn_15 : decode cX8_numberIn 15 = .ok (.if_icmp .ne 12, 3) := by decide +kernel
theorem dX8_numberIn_18 : decode cX8_numberIn 18 = .ok (.iload_n 2, 1) := by decide +kernel
theorem dX8_numberIn_19 : decode cX8_numberIn 19 = .ok (.iload_n 1, 1) := by decide +kernel
theorem dX8_numberIn_20 : decode cX8_numberIn 20 = .ok (.iconst 1, 1) := by decide +kernel
theorem dX8_numberIn_21 : decode cX8_numberIn 21 = .ok (.iadd, 1) := by decide +kernel
theorem dX8_numberIn_22 : decode cX8_numberIn 22 = .ok (.if_icmp .le 5, 3) := by decide +kernel
theorem dX8_numberIn_25 : decode cX8_numberIn 25 = .ok (.iconst (-1), 1) := by decide +kernel
theorem dX8_numberIn_26 : decode cX8_numberIn 26 = .ok (.ireturn, 1) := by decide +kernel
theorem dX8_numberIn_27 : decode cX8_numberIn 27 = .ok (.iconst 0, 1) := by decide +kernel
theorem dX8_numberIn_28 : decode cX8_numberIn 28 = .ok (.istore_n 3, 1) := by decide +kernel
theorem dX8_numberIn_29 : decode cX8_numberIn 29 = .ok (.iload_n 1, 1) := by decide +kernel
theorem dX8_numberIn_30 : decode cX8_numberIn 30 = .ok (.istore 4, 2) := by decide +kernel
theorem dX8_numberIn_32 : decode cX8_numberIn 32 = .ok (.iload 4, 2) := by decide +kernel
theorem dX8_numberIn_34 : decode cX8_numberIn 34 = .ok (.iload_n 2, 1) := by decide +kernel
theorem dX8_numberIn_35 : decode cX8_numberIn 35 = .ok (.if_icmp .ge 29, 3) := by decide +kernel
theorem dX8_numberIn_38 : decode cX8_numberIn 38 = .ok (.iload_n 3, 1) := by decide +kernel
theorem dX8_numberIn_39 : decode cX8_numberIn 39 = .ok (.bipush 10, 2) := by decide +kernel
theorem dX8_numberIn_41 : decode cX8_numberIn 41 = .ok (.imul, 1) := by decide +kernel
theorem dX8_numberIn_42 : decode cX8_numberIn 42 = .ok (.aload_n 0, 1) := by decide +kernel
theorem dX8_numberIn_43 : decode cX8_numberIn 43 = .ok (.iload 4, 2) := by decide +kernel
theorem dX8_numberIn_45 : decode cX8_numberIn 45 = .ok (.invokevirtual 27, 3) := by decide +kernel
theorem dX8_numberIn_48 : decode cX8_numberIn 48 = .ok (.iadd, 1) := by decide +kernel
theorem dX8_numberIn_49 : decode cX8_numberIn 49 = .ok (.bipush 48, 2) := by decide +kernel
theorem dX8_numberIn_51 : decode cX8_numberIn 51 = .ok (.isub, 1) := by decide +kernel
theorem dX8_numberIn_52 : decode cX8_numberIn 52 = .ok (.ldc 39, 2) := by decide +kernel
theorem dX8_numberIn_54 : decode cX8_numberIn 54 = .ok (.invokestatic 40, 3) := by decide +kernel
theorem dX8_numberIn_57 : decode cX8_numberIn 57 = .ok (.istore_n 3, 1) := by decide +kernel
theorem dX8_numberIn_58 : decode cX8_numberIn 58 = .ok (.iinc 4 1, 3) := by decide +kernel
theorem dX8_numberIn_61 : decode cX8_numberIn 61 = .ok (.goto (-29), 3) := by decide +kernel
theorem dX8_numberIn_64 : decode cX8_numberIn 64 = .ok (.iload_n 3, 1) := by decide +kernel
theorem dX8_numberIn_65 : decode cX8_numberIn 65 = .ok (.ireturn, 1) := by decide +kernel
theorem dX9_init_0 : decode cX9_init 0 = .ok (.aload_n 0, 1) := by decide +kernel
theorem dX9_init_1 : decode cX9_init 1 = .ok (.invokespecial 1, 3) := by decide +kernel
theorem dX9_init_4 : decode cX9_init 4 = .ok (.aload_n 0, 1) := by decide +kernel
theorem dX9_init_5 : decode cX9_init 5 = .ok (.new 7, 3) := by decide +kernel
theorem dX9_init_8 : decode cX9_init 8 = .ok (.dup, 1) := by decide +kernel
theorem dX9_init_9 : decode cX9_init 9 = .ok (.invokespecial 9, 3) := by decide +kernel
theorem dX9_init_12 : decode cX9_init 12 = .ok (.putfield 10, 3) := by decide +kernel
theorem dX9_init_15 : decode cX9_init 15 = .ok (.aload_n 0, 1) := by decide +kernel
theorem dX9_init_16 : decode cX9_init 16 = .ok (.aload_n 0, 1) := by decide +kernel
theorem dX9_init_17 : decode cX9_init 17 = .ok (.getfield 10, 3) := by decide +kernel
theorem dX9_init_20 : decode cX9_init 20 = .ok (.getfield 16, 3) := by decide +kernel
theorem dX9_init_23 : decode cX9_init 23 = .ok (.putfield 20, 3) := by decide +kernel
theorem dX9_init_26 : decode cX9_init 26 = .ok (.aload_n 0, 1) := by decide +kernel
theorem dX9_init_27 : decode cX9_init 27 = .ok (.aload_n 0, 1) := by decide +kernel
theorem dX9_init_28 : decode cX9_init 28 = .ok (.getfield 20, 3) := by decide +kernel
theorem dX9_init_31 : decode cX9_init 31 = .ok (.getfield 21, 3) := by decide +kernel
theorem dX9_init_34 : decode cX9_init 34 = .ok (.putfield 27, 3) := by decide +kernel
theorem dX9_init_37 : decode cX9_init 37 = .ok (.aload_n 0, 1) := by decide +kernel
theorem dX9_init_38 : decode cX9_init 38 = .ok (.aload_n 0, 1) := by decide +kernel
theorem dX9_init_39 : decode cX9_init 39 = .ok (.getfield 10, 3) := by decide +kernel
theorem dX9_init_42 : decode cX9_init 42 = .ok (.getfield 28, 3) := by decide +kernel
theorem dX9_init_45 : decode cX9_init 45 = .ok (.putfield 32, 3) := by decide +kernel
theorem dX9_init_48 : decode cX9_init 48 = .ok (.aload_n 0, 1) := by decide +kernel
theorem dX9_init_49 : decode cX9_init 49 = .ok (.aload_n 0, 1) := by decide +kernel
theorem dX9_init_50 : decode cX9_init 50 = .ok (.getfield 10, 3) := by decide +kernel
theorem dX9_init_53 : decode cX9_init 53 = .ok (.getfield 33, 3) := by decide +kernel
theorem dX9_init_56 : decode cX9_init 56 = .ok (.putfield 36, 3) := by decide +kernel
theorem dX9_init_59 : decode cX9_init 59 = .ok (.aload_n 0, 1) := by decide +kernel
theorem dX9_init_60 : decode cX9_init 60 = .ok (.aload_n 0, 1) := by decide +kernel
theorem dX9_init_61 : decode cX9_init 61 = .ok (.getfield 10, 3) := by decide +kernel
theorem dX9_init_64 : decode cX9_init 64 = .ok (.getfield 37, 3) := by decide +kernel
theorem dX9_init_67 : decode cX9_init 67 = .ok (.putfield 41, 3) := by decide +kernel
theorem dX9_init_70 : decode cX9_init 70 = .ok (.aload_n 0, 1) := by decide +kernel
theorem dX9_init_71 : decode cX9_init 71 = .ok (.new 42, 3) := by decide +kernel
theorem dX9_init_74 : decode cX9_init 74 = .ok (.dup, 1) := by decide +kernel
theorem dX9_init_75 : decode cX9_init 75 = .ok (.invokespecial 44, 3) := by decide +kernel
theorem dX9_init_78 : decode cX9_init 78 = .ok (.putfield 45, 3) := by decide +kernel
theorem dX9_init_81 : decode cX9_init 81 = .ok (.aload_n 0, 1) := by decide +kernel
theorem dX9_init_82 : decode cX9_init 82 = .ok (.new 49, 3) := by decide +kernel
theorem dX9_init_85 : decode cX9_init 85 = .ok (.dup, 1) := by decide +kernel
theorem dX9_init_86 : decode cX9_init 86 = .ok (.invokespecial 51, 3) := by decide +kernel
theorem dX9_init_89 : decode cX9_init 89 = .ok (.putfield 52, 3) := by decide +kernel
theorem dX9_init_92 : decode cX9_init 92 = .ok (.aload_n 0, 1) := by decide +kernel
theorem dX9_init_93 : decode cX9_init 93 = .ok (.new 56, 3) := by decide +kernel
theorem dX9_init_96 : decode cX9_init 96 = .ok (.dup, 1) := by decide +kernel
theorem dX9_init_97 : decode cX9_init 97 = .ok (.invokespecial 58, 3) := by decide +kernel
theorem dX9_init_100 : decode cX9_init 100 = .ok (.putfield 59, 3) := by decide +kernel
theorem dX9_init_103 : decode cX9_init 103 = .ok (.aload_n 0, 1) := by decide +kernel
theorem dX9_init_104 : decode cX9_init 104 = .ok (.new 22, 3) := by decide +kernel
theorem dX9_init_107 : decode cX9_init 107 = .ok (.dup, 1) := by decide +kernel
theorem dX9_init_108 : decode cX9_init 108 = .ok (.invokespecial 63, 3) := by decide +kernel
theorem dX9_init_111 : decode cX9_init 111 = .ok (.putfield 64, 3) := by decide +kernel
theorem dX9_init_114 : decode cX9_init 114 = .ok (.aload_n 0, 1) := by decide +kernel
theorem dX9_init_115 : decode cX9_init 115 = .ok (.getfield 36, 3) := by decide +kernel
theorem dX9_init_118 : decode cX9_init 118 = .ok (.sipush 1000, 3) := by decide +kernel
theorem dX9_init_121 : decode cX9_init 121 = .ok (.iconst 2, 1) := by decide +kernel
theorem dX9_init_122 : decode cX9_init 122 = .ok (.invokevirtual 67, 3) := by decide +kernel
theorem dX9_init_125 : decode cX9_init 125 = .ok (.aload_n 0, 1) := by decide +kernel
theorem dX9_init_126 : decode cX9_init 126 = .ok (.getfield 36, 3) := by decide +kernel
theorem dX9_init_129 : decode cX9_init 129 = .ok (.sipush 1500, 3) := by decide +kernel
theorem dX9_init_132 : decode cX9_init 132 = .ok (.bipush 6, 2) := by decide +kernel
theorem dX9_init_134 : decode cX9_init 134 = .ok (.invokevirtual 67, 3) := by decide +kernel
theorem dX9_init_137 : decode cX9_init 137 = .ok (.aload_n 0, 1) := by decide +kernel
theorem dX9_init_138 : decode cX9_init 138 = .ok (.getfield 36, 3) := by decide +kernel
theorem dX9_init_141 : decode cX9_init 141 = .ok (.sipush 1900, 3) := by decide +kernel
theorem dX9_init_144 : decode cX9_init 144 = .ok (.bipush 14, 2) := by decide +kernel
theorem dX9_init_146 : decode cX9_init 146 = .ok (.invokevirtual 67, 3) := by decide +kernel
theorem dX9_init_149 : decode cX9_init 149 = .ok (.aload_n 0, 1) := by decide +kernel
theorem dX9_init_150 : decode cX9_init 150 = .ok (.getfield 36, 3) := by decide +kernel
theorem dX9_init_153 : decode cX9_init 153 = .ok (.sipush 2100, 3) := by decide +kernel
theorem dX9_init_156 : decode cX9_init 156 = .ok (.bipush 25, 2) := by decide +kernel
theorem dX9_init_158 : decode cX9_init 158 = .ok (.invokevirtual 67, 3) := by decide +kernel
theorem dX9_init_161 : decode cX9_init 161 = .ok (.return_, 1) := by decide +kernel
theorem dX9_setAmbient_0 : decode cX9_setAmbient 0 = .ok (.iload_n 1, 1) := by decide +kernel
theorem dX9_setAmbient_1 : decode cX9_setAmbient 1 = .ok (.iconst 0, 1) := by decide +kernel
theorem dX9_setAmbient_2 : decode cX9_setAmbient 2 = .ok (.sipush 400, 3) := by decide +kernel
theorem dX9_setAmbient_5 : decode cX9_setAmbient 5 = .ok (.invokestatic 73, 3) := by decide +kernel
theorem dX9_setAmbient_8 : decode cX9_setAmbient 8 = .ok (.ifCond .ne 6, 3) := by decide +kernel
theorem dX9_setAmbient_11 : decode cX9_setAmbient 11 = .ok (.ldc 77, 2) := by decide +kernel
theorem dX9_setAmbient_13 : decode cX9_setAmbient 13 = .ok (.ireturn, 1) := by decide +kernel
theorem dX9_setAmbient_14 : decode cX9_setAmbient 14 = .ok (.aload_n 0, 1) := by decide +kernel
theorem dX9_setAmbient_15 : decode cX9_setAmbient 15 = .ok (.getfield 45, 3) := by decide +kernel
theorem dX9_setAmbient_18 : decode cX9_setAmbient 18 = .ok (.aload_n 0, 1) := by decide +kernel
theorem dX9_setAmbient_19 : decode cX9_setAmbient 19 = .ok (.getfield 10, 3) := by decide +kernel
theorem dX9_setAmbient_22 : decode cX9_setAmbient 22 = .ok (.invokevirtual 78, 3) := by decide +kernel
theorem dX9_setAmbient_25 : decode cX9_setAmbient 25 = .ok (.aload_n 0, 1) := by decide +kernel
theorem dX9_setAmbient_26 : decode cX9_setAmbient 26 = .ok (.getfield 27, 3) := by decide +kernel
theorem dX9_setAmbient_29 : decode cX9_setAmbient 29 = .ok (.getfield 82, 3) := by decide +kernel
theorem dX9_setAmbient_32 : decode cX9_setAmbient 32 = .ok (.istore_n 2, 1) := by decide +kernel
theorem dX9_setAmbient_33 : decode cX9_setAmbient 33 = .ok (.aload_n 0, 1) := by decide +kernel
theorem dX9_setAmbient_34 : decode cX9_setAmbient 34 = .ok (.getfield 27, 3) := by decide +kernel
theorem dX9_setAmbient_37 : decode cX9_setAmbient 37 = .ok (.iload_n 1, 1) := by decide +kernel
theorem dX9_setAmbient_38 : decode cX9_setAmbient 38 = .ok (.putfield 82, 3) := by decide +kernel
theorem dX9_setAmbient_41 : decode cX9_setAmbient 41 = .ok (.iload_n 2, 1) := by decide +kernel
theorem dX9_setAmbient_42 : decode cX9_setAmbient 42 = .ok (.ireturn, 1) := by decide +kernel
theorem dX9_setPower_0 : decode cX9_setPower 0 = .ok (.iload_n 1, 1) := by decide +kernel
theorem dX9_setPower_1 : decode cX9_setPower 1 = .ok (.iconst 0, 1) := by decide +kernel
theorem dX9_setPower_2 : decode cX9_setPower 2 = .ok (.bipush 100, 2) := by decide +kernel
theorem dX9_setPower_4 : decode cX9_setPower 4 = .ok (.invokestatic 73, 3) := by decide +kernel
theorem dX9_setPower_7 : decode cX9_setPower 7 = .ok (.ifCond .ne 6, 3) := by decide +kernel
theorem dX9_setPower_10 : decode cX9_setPower 10 = .ok (.ldc 77, 2) := by decide +kernel
theorem dX9_setPower_12 : decode cX9_setPower 12 = .ok (.ireturn, 1) := by decide +kernel
theorem dX9_setPower_13 : decode cX9_setPower 13 = .ok (.aload_n 0, 1) := by decide +kernel
theorem dX9_setPower_14 : decode cX9_setPower 14 = .ok (.getfield 45, 3) := by decide +kernel
theorem dX9_setPower_17 : decode cX9_setPower 17 = .ok (.aload_n 0, 1) := by decide +kernel
theorem dX9_setPower_18 : decode cX9_setPower 18 = .ok (.getfield 10, 3) := by decide +kernel
theorem dX9_setPower_21 : decode cX9_setPower 21 = .ok (.invokevirtual 78, 3) := by decide +kernel
theorem dX9_setPower_24 : decode cX9_setPower 24 = .ok (.aload_n 0, 1) := by decide +kernel
theorem dX9_setPower_25 : decode cX9_setPower 25 = .ok (.getfield 20, 3) := by decide +kernel
theorem dX9_setPower_28 : decode cX9_setPower 28 = .ok (.getfield 88, 3) := by decide +kernel
theorem dX9_setPower_31 : decode cX9_setPower 31 = .ok (.istore_n 2, 1) := by decide +kernel
theorem dX9_setPower_32 : decode cX9_setPower 32 = .ok (.aload_n 0, 1) := by decide +kernel
theorem dX9_setPower_33 : decode cX9_setPower 33 = .ok (.getfield 20, 3) := by decide +kernel
theorem dX9_setPower_36 : decode cX9_setPower 36 = .ok (.iload_n 1, 1) := by decide +kernel
theorem dX9_setPower_37 : decode cX9_setPower 37 = .ok (.putfield 88, 3) := by decide +kernel
theorem dX9_setPower_40 : decode cX9_setPower 40 = .ok (.iload_n 2, 1) := by decide +kernel
theorem dX9_setPower_41 : decode cX9_setPower 41 = .ok (.ireturn, 1) := by decide +kernel
theorem dX9_setController_0 : decode cX9_setController 0 = .ok (.iload_n 1, 1) := by decide +kernel
theorem dX9_setController_1 : decode cX9_setController 1 = .ok (.iconst 0, 1) := by decide +kernel
theorem dX9_setController_2 : decode cX9_setController 2 = .ok (.iconst 1, 1) := by decide +kernel
theorem dX9_setController_3 : decode cX9_setController 3 = .ok (.invokestatic 73, 3) := by decide +kernel
theorem dX9_setController_6 : decode cX9_setController 6 = .ok (.ifCond .eq 36, 3) := by decide +kernel
theorem dX9_setController_9 : decode cX9_setController 9 = .ok (.iload_n 2, 1) := by decide +kernel
theorem dX9_setController_10 : decode cX9_setController 10 = .ok (.iconst 0, 1) := by decide +kernel
theorem dX9_setController_11 : decode cX9_setController 11 = .ok (.sipush 200, 3) := by decide +kernel
theorem dX9_setController_14 : decode cX9_setController 14 = .ok (.invokestatic 73, 3) := by decide +kernel
theorem dX9_setController_17 : decode cX9_setController 17 = .ok (.ifCond .eq 25, 3) := by decide +kernel
theorem dX9_setController_20 : decode cX9_setController 20 = .ok (.iload_n 3, 1) := by decide +kernel
theorem dX9_setController_21 : decode cX9_setController 21 = .ok (.iconst 0, 1) := by decide +kernel
theorem dX9_setController_22 : decode cX9_setController 22 = .ok (.sipush 200, 3) := by decide +kernel
theorem dX9_setController_25 : decode cX9_setController 25 = .ok (.invokestatic 73, 3) := by decide +kernel
theorem dX9_setController_28 : decode cX9_setController 28 = .ok (.ifCond .eq 14, 3) := by decide +kernel
theorem dX9_setController_31 : decode cX9_setController 31 = .ok (.iload 4, 2) := by decide +kernel
theorem dX9_setController_33 : decode cX9_setController 33 = .ok (.iconst 0, 1) := by decide +kernel
theorem dX9_setController_34 : decode cX9_setController 34 = .ok (.bipush 100, 2) := by decide +kernel
theorem dX9_setController_36 : decode cX9_setController 36 = .ok (.invokestatic 73, 3) := by decide +kernel
theorem dX9_setController_39 : decode cX9_setController 39 = .ok (.ifCond .ne 6, 3) := by decide +kernel
theorem dX9_setController_42 : decode cX9_setController 42 = .ok (.ldc 77, 2) := by decide +kernel
theorem dX9_setController_44 : decode cX9_setController 44 = .ok (.ireturn, 1) := by decide +kernel
theorem dX9_setController_45 : decode cX9_setController 45 = .ok (.aload_n 0, 1) := by decide +kernel
theorem dX9_setController_46 : decode cX9_setController 46 = .ok (.getfield 45, 3) := by decide +kernel
theorem dX9_setController_49 : decode cX9_setController 49 = .ok (.aload_n 0, 1) := by decide +kernel
theorem dX9_setController_50 : decode cX9_setController 50 = .ok (.getfield 10, 3) := by decide +kernel
theorem dX9_setController_53 : decode cX9_setController 53 = .ok (.invokevirtual 78, 3) := by decide +kernel
theorem dX9_setController_56 : decode cX9_setController 56 = .ok (.aload_n 0, 1) := by decide +kernel
theorem dX9_setController_57 : decode cX9_setController 57 = .ok (.getfield 27, 3) := by decide +kernel
theorem dX9_setController_60 : decode cX9_setController 60 = .ok (.getfield 91, 3) := by decide +kernel
theorem dX9_setController_63 : decode cX9_setController 63 = .ok (.iload_n 1, 1) := by decide +kernel
theorem dX9_setController_64 : decode cX9_setController 64 = .ok (.if_icmp .ne 41, 3) := by decide +kernel
theorem dX9_setController_67 : decode cX9_setController 67 = .ok (.aload_n 0, 1) := by decide +kernel
theorem dX9_setController_68 : decode cX9_setController 68 = .ok (.getfield 27, 3) := by decide +kernel
theorem dX9_setController_71 : decode cX9_setController 71 = .ok (.getfield 94, 3) := by decide +kernel
theorem dX9_setController_74 : decode cX9_setController 74 = .ok (.iload_n 2, 1) := by decide +kernel
theorem dX9_setController_75 : decode cX9_setController 75 = .ok (.if_icmp .ne 30, 3) := by decide +kernel
theorem dX9_setController_78 : decode cX9_setController 78 = .ok (.aload_n 0, 1) := by decide +kernel
theorem dX9_setController_79 : decode cX9_setController 79 = .ok (.getfield 27, 3) := by decide +kernel
theorem dX9_setController_82 : decode cX9_setController 82 = .ok (.getfield 97, 3) := by decide +kernel
theorem dX9_setController_85 : decode cX9_setController 85 = .ok (.iload_n 3, 1) := by decide +kernel
theorem dX9_setController_86 : decode cX9_setController 86 = .ok (.if_icmp .ne 19, 3) := by decide +kernel
theorem dX9_setController_89 : decode cX9_setController 89 = .ok (.aload_n 0, 1) := by decide +kernel
theorem dX9_setController_90 : decode cX9_setController 90 = .ok (.getfield 27, 3) := by decide +kernel
theorem dX9_setController_93 : decode cX9_setController 93 = .ok (.getfield 100, 3) := by decide +kernel
theorem dX9_setController_96 : decode cX9_setController 96 = .ok (.iload 4, 2) := by decide +kernel
theorem dX9_setController_98 : decode cX9_setController 98 = .ok (.if_icmp .ne 7, 3) := by decide +kernel
theorem dX9_setController_101 : decode cX9_setController 101 = .ok (.iconst 1, 1) := by decide +kernel
theorem dX9_setController_102 : decode cX9_setController 102 = .ok (.goto 4, 3) := by decide +kernel
theorem dX9_setController_105 : decode cX9_setController 105 = .ok (.iconst 0, 1) := by decide +kernel
theorem dX9_setController_106 : decode cX9_setController 106 = .ok (.istore 5, 2) := by decide +kernel
theorem dX9_setController_108 : decode cX9_setController 108 = .ok (.aload_n 0, 1) := by decide +kernel
theorem dX9_setController_109 : decode cX9_setController 109 = .ok (.getfield 27, 3) := by decide +kernel
theorem dX9_setController_112 : decode cX9_setController 112 = .ok (.iload_n 1, 1) := by decide +kernel
theorem dX9_setController_113 : decode cX9_setController 113 = .ok (.putfield 91, 3) := by decide +kernel
theorem dX9_setController_116 : decode cX9_setController 116 = .ok (.aload_n 0, 1) := by decide +kernel
theorem dX9_setController_117 : decode cX9_setController 117 = .ok (.getfield 27, 3) := by decide +kernel
theorem dX9_setController_120 : decode cX9_setController 120 = .ok (.iload_n 2, 1) := by decide +kernel
theorem dX9_setController_121 : decode cX9_setController 121 = .ok (.putfield 94, 3) := by decide +kernel
theorem dX9_setController_124 : decode cX9_setController 124 = .ok (.aload_n 0, 1) := by decide +kernel
theorem dX9_setController_125 : decode cX9_setController 125 = .ok (.getfield 27, 3) := by decide +kernel
theorem dX9_setController_128 : decode cX9_setController 128 = .ok (.iload_n 3, 1) := by decide +kernel
theorem dX9_setController_129 : decode cX9_setController 129 = .ok (.putfield 97, 3) := by decide +kernel
theorem dX9_setController_132 : decode cX9_setController 132 = .ok (.aload_n 0, 1) := by decide +kernel
theorem dX9_setController_133 : decode cX9_setController 133 = .ok (.getfield 27, 3) := by decide +kernel
theorem dX9_setController_136 : decode cX9_setController 136 = .ok (.iload 4, 2) := by decide +kernel
theorem dX9_setController_138 : decode cX9_setController 138 = .ok (.putfield 100, 3) := by decide +kernel
theorem dX9_setController_141 : decode cX9_setController 141 = .ok (.iload 5, 2) := by decide +kernel
theorem dX9_setController_143 : decode cX9_setController 143 = .ok (.ifCond .eq 7, 3) := by decide +kernel
theorem dX9_setController_146 : decode cX9_setController 146 = .ok (.iconst 0, 1) := by decide +kernel
theorem dX9_setController_147 : decode cX9_setController 147 = .ok (.goto 4, 3) := by decide +kernel
theorem dX9_setController_150 : decode cX9_setController 150 = .ok (.iconst 1, 1) := by decide +kernel
theorem dX9_setController_151 : decode cX9_setController 151 = .ok (.ireturn, 1) := by decide +kernel
theorem dX9_setProbe_0 : decode cX9_setProbe 0 = .ok (.iload_n 1, 1) := by decide +kernel
theorem dX9_setProbe_1 : decode cX9_setProbe 1 = .ok (.iconst 1, 1) := by decide +kernel
theorem dX9_setProbe_2 : decode cX9_setProbe 2 = .ok (.bipush 60, 2) := by decide +kernel
theorem dX9_setProbe_4 : decode cX9_setProbe 4 = .ok (.invokestatic 73, 3) := by decide +kernel
theorem dX9_setProbe_7 : decode cX9_setProbe 7 = .ok (.ifCond .eq 12, 3) := by decide +kernel
theorem dX9_setProbe_10 : decode cX9_setProbe 10 = .ok (.iload_n 2, 1) := by decide +kernel
theorem dX9_setProbe_11 : decode cX9_setProbe 11 = .ok (.iconst 0, 1) := by decide +kernel
theorem dX9_setProbe_12 : decode cX9_setProbe 12 = .ok (.iconst 5, 1) := by decide +kernel
theorem dX9_setProbe_13 : decode cX9_setProbe 13 = .ok (.invokestatic 73, 3) := by decide +kernel
theorem dX9_setProbe_16 : decode cX9_setProbe 16 = .ok (.ifCond .ne 6, 3) := by decide +kernel
theorem dX9_setProbe_19 : decode cX9_setProbe 19 = .ok (.ldc 77, 2) := by decide +kernel
theorem dX9_setProbe_21 : decode cX9_setProbe 21 = .ok (.ireturn, 1) := by decide +kernel
theorem dX9_setProbe_22 : decode cX9_setProbe 22 = .ok (.aload_n 0, 1) := by decide +kernel
theorem dX9_setProbe_23 : decode cX9_setProbe 23 = .ok (.getfield 45, 3) := by decide +kernel
theorem dX9_setProbe_26 : decode cX9_setProbe 26 = .ok (.aload_n 0, 1) := by decide +kernel
theorem dX9_setProbe_27 : decode cX9_setProbe 27 = .ok (.getfield 10, 3) := by decide +kernel
theorem dX9_setProbe_30 : decode cX9_setProbe 30 = .ok (.invokevirtual 78, 3) := by decide +kernel
theorem dX9_setProbe_33 : decode cX9_setProbe 33 = .ok (.aload_n 0, 1) := by decide +kernel
theorem dX9_setProbe_34 : decode cX9_setProbe 34 = .ok (.getfield 27, 3) := by decide +kernel
theorem dX9_setProbe_37 : decode cX9_setProbe 37 = .ok (.getfield 103, 3) := by decide +kernel
theorem dX9_setProbe_40 : decode cX9_setProbe 40 = .ok (.istore_n 3, 1) := by decide +kernel
theorem dX9_setProbe_41 : decode cX9_setProbe 41 = .ok (.aload_n 0, 1) := by decide +kernel
theorem dX9_setProbe_42 : decode cX9_setProbe 42 = .ok (.getfield 27, 3) := by decide +kernel
theorem dX9_setProbe_45 : decode cX9_setProbe 45 = .ok (.iload_n 1, 1) := by decide +kernel
theorem dX9_setProbe_46 : decode cX9_setProbe 46 = .ok (.putfield 103, 3) := by decide +kernel
theorem dX9_setProbe_49 : decode cX9_setProbe 49 = .ok (.aload_n 0, 1) := by decide +kernel
theorem dX9_setProbe_50 : decode cX9_setProbe 50 = .ok (.getfield 27, 3) := by decide +kernel
theorem dX9_setProbe_53 : decode cX9_setProbe 53 = .ok (.iload_n 2, 1) := by decide +kernel
theorem dX9_setProbe_54 : decode cX9_setProbe 54 = .ok (.putfield 106, 3) := by decide +kernel
theorem dX9_setProbe_57 : decode cX9_setProbe 57 = .ok (.iload_n 3, 1) := by decide +kernel
theorem dX9_setProbe_58 : decode cX9_setProbe 58 = .ok (.ireturn, 1) := by decide +kernel
theorem dX9_setCrack_0 : decode cX9_setCrack 0 = .ok (.iload_n 1, 1) := by decide +kernel
theorem dX9_setCrack_1 : decode cX9_setCrack 1 = .ok (.sipush 1500, 3) := by decide +kernel
theorem dX9_setCrack_4 : decode cX9_setCrack 4 = .ok (.sipush 2300, 3) := by decide +kernel
theorem dX9_setCrack_7 : decode cX9_setCrack 7 = .ok (.invokestatic 73, 3) := by decide +kernel
theorem dX9_setCrack_10 : decode cX9_setCrack 10 = .ok (.ifCond .eq 14, 3) := by decide +kernel
theorem dX9_setCrack_13 : decode cX9_setCrack 13 = .ok (.iload_n 2, 1) := by decide +kernel
theorem dX9_setCrack_14 : decode cX9_setCrack 14 = .ok (.iconst 1, 1) := by decide +kernel
theorem dX9_setCrack_15 : decode cX9_setCrack 15 = .ok (.sipush 600, 3) := by decide +kernel
theorem dX9_setCrack_18 : decode cX9_setCrack 18 = .ok (.invokestatic 73, 3) := by decide +kernel
theorem dX9_setCrack_21 : decode cX9_setCrack 21 = .ok (.ifCond .ne 6, 3) := by decide +kernel
theorem dX9_setCrack_24 : decode cX9_setCrack 24 = .ok (.ldc 77, 2) := by decide +kernel
theorem dX9_setCrack_26 : decode cX9_setCrack 26 = .ok (.ireturn, 1) := by decide +kernel
theorem dX9_setCrack_27 : decode cX9_setCrack 27 = .ok (.aload_n 0, 1) := by decide +kernel
theorem dX9_setCrack_28 : decode cX9_setCrack 28 = .ok (.getfield 45, 3) := by decide +kernel
theorem dX9_setCrack_31 : decode cX9_setCrack 31 = .ok (.aload_n 0, 1) := by decide +kernel
theorem dX9_setCrack_32 : decode cX9_setCrack 32 = .ok (.getfield 10, 3) := by decide +kernel
theorem dX9_setCrack_35 : decode cX9_setCrack 35 = .ok (.invokevirtual 78, 3) := by decide +kernel
theorem dX9_setCrack_38 : decode cX9_setCrack 38 = .ok (.aload_n 0, 1) := by decide +kernel
theorem dX9_setCrack_39 : decode cX9_setCrack 39 = .ok (.getfield 27, 3) := by decide +kernel
theorem dX9_setCrack_42 : decode cX9_setCrack 42 = .ok (.getfield 109, 3) := by decide +kernel
theorem dX9_setCrack_45 : decode cX9_setCrack 45 = .ok (.iload_n 1, 1) := by decide +kernel
theorem dX9_setCrack_46 : decode cX9_setCrack 46 = .ok (.if_icmp .ne 18, 3) := by decide +kernel
theorem dX9_setCrack_49 : decode cX9_setCrack 49 = .ok (.aload_n 0, 1) := by decide +kernel
theorem dX9_setCrack_50 : decode cX9_setCrack 50 = .ok (.getfield 27, 3) := by decide +kernel
theorem dX9_setCrack_53 : decode cX9_setCrack 53 = .ok (.getfield 112, 3) := by decide +kernel
theorem dX9_setCrack_56 : decode cX9_setCrack 56 = .ok (.iload_n 2, 1) := by decide +kernel
theorem dX9_setCrack_57 : decode cX9_setCrack 57 = .ok (.if_icmp .ne 7, 3) := by decide +kernel
theorem dX9_setCrack_60 : decode cX9_setCrack 60 = .ok (.iconst 1, 1) := by decide +kernel
theorem dX9_setCrack_61 : decode cX9_setCrack 61 = .ok (.goto 4, 3) := by decide +kernel
theorem dX9_setCrack_64 : decode cX9_setCrack 64 = .ok (.iconst 0, 1) := by decide +kernel
theorem dX9_setCrack_65 : decode cX9_setCrack 65 = .ok (.istore_n 3, 1) := by decide +kernel
theorem dX9_setCrack_66 : decode cX9_setCrack 66 = .ok (.aload_n 0, 1) := by decide +kernel
theorem dX9_setCrack_67 : decode cX9_setCrack 67 = .ok (.getfield 27, 3) := by decide +kernel
theorem dX9_setCrack_70 : decode cX9_setCrack 70 = .ok (.iload_n 1, 1) := by decide +kernel
theorem dX9_setCrack_71 : decode cX9_setCrack 71 = .ok (.putfield 109, 3) := by decide +kernel
theorem dX9_setCrack_74 : decode cX9_setCrack 74 = .ok (.aload_n 0, 1) := by decide +kernel
theorem dX9_setCrack_75 : decode cX9_setCrack 75 = .ok (.getfield 27, 3) := by decide +kernel
theorem dX9_setCrack_78 : decode cX9_setCrack 78 = .ok (.iload_n 2, 1) := by decide +kernel
theorem dX9_setCrack_79 : decode cX9_setCrack 79 = .ok (.putfield 112, 3) := by decide +kernel
theorem dX9_setCrack_82 : decode cX9_setCrack 82 = .ok (.iload_n 3, 1) := by decide +kernel
theorem dX9_setCrack_83 : decode cX9_setCrack 83 = .ok (.ifCond .eq 7, 3) := by decide +kernel
theorem dX9_setCrack_86 : decode cX9_setCrack 86 = .ok (.iconst 0, 1) := by decide +kernel
theorem dX9_setCrack_87 : decode cX9_setCrack 87 = .ok (.goto 4, 3) := by decide +kernel
theorem dX9_setCrack_90 : decode cX9_setCrack 90 = .ok (.iconst 1, 1) := by decide +kernel
theorem dX9_setCrack_91 : decode cX9_setCrack 91 = .ok (.ireturn, 1) := by decide +kernel
theorem dX9_setFan_0 : decode cX9_setFan 0 = .ok (.iload_n 1, 1) := by decide +kernel
theorem dX9_setFan_1 : decode cX9_setFan 1 = .ok (.iconst 1, 1) := by decide +kernel
theorem dX9_setFan_2 : decode cX9_setFan 2 = .ok (.bipush 50, 2) := by decide +kernel
theorem dX9_setFan_4 : decode cX9_setFan 4 = .ok (.invokestatic 73, 3) := by decide +kernel
theorem dX9_setFan_7 : decode cX9_setFan 7 = .ok (.ifCond .ne 6, 3) := by decide +kernel
theorem dX9_setFan_10 : decode cX9_setFan 10 = .ok (.ldc 77, 2) := by decide +kernel
theorem dX9_setFan_12 : decode cX9_setFan 12 = .ok (.ireturn, 1) := by decide +kernel
theorem dX9_setFan_13 : decode cX9_setFan 13 = .ok (.aload_n 0, 1) := by decide +kernel
theorem dX9_setFan_14 : decode cX9_setFan 14 = .ok (.getfield 45, 3) := by decide +kernel
theorem dX9_setFan_17 : decode cX9_setFan 17 = .ok (.aload_n 0, 1) := by decide +kernel
theorem dX9_setFan_18 : decode cX9_setFan 18 = .ok (.getfield 10, 3) := by decide +kernel
theorem dX9_setFan_21 : decode cX9_setFan 21 = .ok (.invokevirtual 78, 3) := by decide +kernel
theorem dX9_setFan_24 : decode cX9_setFan 24 = .ok (.aload_n 0, 1) := by decide +kernel
theorem dX9_setFan_25 : decode cX9_setFan 25 = .ok (.getfield 27, 3) := by decide +kernel
theorem dX9_setFan_28 : decode cX9_setFan 28 = .ok (.getfield 115, 3) := by decide +kernel
theorem dX9_setFan_31 : decode cX9_setFan 31 = .ok (.istore_n 2, 1) := by decide +kernel
theorem dX9_setFan_32 : decode cX9_setFan 32 = .ok (.aload_n 0, 1) := by decide +kernel
theorem dX9_setFan_33 : decode cX9_setFan 33 = .ok (.getfield 27, 3) := by decide +kernel
theorem dX9_setFan_36 : decode cX9_setFan 36 = .ok (.iload_n 1, 1) := by decide +kernel
theorem dX9_setFan_37 : decode cX9_setFan 37 = .ok (.putfield 115, 3) := by decide +kernel
theorem dX9_setFan_40 : decode cX9_setFan 40 = .ok (.iload_n 2, 1) := by decide +kernel
theorem dX9_setFan_41 : decode cX9_setFan 41 = .ok (.ireturn, 1) := by decide +kernel
theorem dX9_setPoint_0 : decode cX9_setPoint 0 = .ok (.iload_n 1, 1) := by decide +kernel
theorem dX9_setPoint_1 : decode cX9_setPoint 1 = .ok (.iconst 0, 1) := by decide +kernel
theorem dX9_setPoint_2 : decode cX9_setPoint 2 = .ok (.sipush 400, 3) := by decide +kernel
theorem dX9_setPoint_5 : decode cX9_setPoint 5 = .ok (.invokestatic 73, 3) := by decide +kernel
theorem dX9_setPoint_8 : decode cX9_setPoint 8 = .ok (.ifCond .eq 14, 3) := by decide +kernel
theorem dX9_setPoint_11 : decode cX9_setPoint 11 = .ok (.iload_n 2, 1) := by decide +kernel
theorem dX9_setPoint_12 : decode cX9_setPoint 12 = .ok (.iconst 0, 1) := by decide +kernel
theorem dX9_setPoint_13 : decode cX9_setPoint 13 = .ok (.sipush 3000, 3) := by decide +kernel
theorem dX9_setPoint_16 : decode cX9_setPoint 16 = .ok (.invokestatic 73, 3) := by decide +kernel
theorem dX9_setPoint_19 : decode cX9_setPoint 19 = .ok (.ifCond .ne 6, 3) := by decide +kernel
theorem dX9_setPoint_22 : decode cX9_setPoint 22 = .ok (.ldc 77, 2) := by decide +kernel
theorem dX9_setPoint_24 : decode cX9_setPoint 24 = .ok (.ireturn, 1) := by decide +kernel
theorem dX9_setPoint_25 : decode cX9_setPoint 25 = .ok (.aload_n 0, 1) := by decide +kernel
theorem dX9_setPoint_26 : decode cX9_setPoint 26 = .ok (.getfield 32, 3) := by decide +kernel
theorem dX9_setPoint_29 : decode cX9_setPoint 29 = .ok (.iload_n 1, 1) := by decide +kernel
theorem dX9_setPoint_30 : decode cX9_setPoint 30 = .ok (.invokevirtual 118, 3) := by decide +kernel
theorem dX9_setPoint_33 : decode cX9_setPoint 33 = .ok (.ifCond .ne 6, 3) := by decide +kernel
theorem dX9_setPoint_36 : decode cX9_setPoint 36 = .ok (.ldc 122, 2) := by decide +kernel
theorem dX9_setPoint_38 : decode cX9_setPoint 38 = .ok (.ireturn, 1) := by decide +kernel
theorem dX9_setPoint_39 : decode cX9_setPoint 39 = .ok (.aload_n 0, 1) := by decide +kernel
theorem dX9_setPoint_40 : decode cX9_setPoint 40 = .ok (.getfield 45, 3) := by decide +kernel
theorem dX9_setPoint_43 : decode cX9_setPoint 43 = .ok (.aload_n 0, 1) := by decide +kernel
theorem dX9_setPoint_44 : decode cX9_setPoint 44 = .ok (.getfield 10, 3) := by decide +kernel
theorem dX9_setPoint_47 : decode cX9_setPoint 47 = .ok (.invokevirtual 78, 3) := by decide +kernel
theorem dX9_setPoint_50 : decode cX9_setPoint 50 = .ok (.aload_n 0, 1) := by decide +kernel
theorem dX9_setPoint_51 : decode cX9_setPoint 51 = .ok (.getfield 32, 3) := by decide +kernel
theorem dX9_setPoint_54 : decode cX9_setPoint 54 = .ok (.iload_n 1, 1) := by decide +kernel
theorem dX9_setPoint_55 : decode cX9_setPoint 55 = .ok (.iload_n 2, 1) := by decide +kernel
theorem dX9_setPoint_56 : decode cX9_setPoint 56 = .ok (.invokevirtual 67, 3) := by decide +kernel
theorem dX9_setPoint_59 : decode cX9_setPoint 59 = .ok (.aload_n 0, 1) := by decide +kernel
theorem dX9_setPoint_60 : decode cX9_setPoint 60 = .ok (.getfield 32, 3) := by decide +kernel
theorem dX9_setPoint_63 : decode cX9_setPoint 63 = .ok (.getfield 123, 3) := by decide +kernel
theorem dX9_setPoint_66 : decode cX9_setPoint 66 = .ok (.ireturn, 1) := by decide +kernel
theorem dX9_removePoint_0 : decode cX9_removePoint 0 = .ok (.iload_n 1, 1) := by decide +kernel
theorem dX9_removePoint_1 : decode cX9_removePoint 1 = .ok (.iconst 0, 1) := by decide +kernel
theorem dX9_removePoint_2 : decode cX9_removePoint 2 = .ok (.sipush 400, 3) := by decide +kernel
theorem dX9_removePoint_5 : decode cX9_removePoint 5 = .ok (.invokestatic 73, 3) := by decide +kernel
theorem dX9_removePoint_8 : decode cX9_removePoint 8 = .ok (.ifCond .ne 6, 3) := by decide +kernel
theorem dX9_removePoint_11 : decode cX9_removePoint 11 = .ok (.ldc 77, 2) := by decide +kernel
theorem dX9_removePoint_13 : decode cX9_removePoint 13 = .ok (.ireturn, 1) := by decide +kernel
theorem dX9_removePoint_14 : decode cX9_removePoint 14 = .ok (.aload_n 0, 1) := by decide +kernel
theorem dX9_removePoint_15 : decode cX9_removePoint 15 = .ok (.getfield 32, 3) := by decide +kernel
theorem dX9_removePoint_18 : decode cX9_removePoint 18 = .ok (.iload_n 1, 1) := by decide +kernel
theorem dX9_removePoint_19 : decode cX9_removePoint 19 = .ok (.invokevirtual 126, 3) := by decide +kernel
theorem dX9_removePoint_22 : decode cX9_removePoint 22 = .ok (.ifCond .ne 6, 3) := by decide +kernel
theorem dX9_removePoint_25 : decode cX9_removePoint 25 = .ok (.ldc 129, 2) := by decide +kernel
theorem dX9_removePoint_27 : decode cX9_removePoint 27 = .ok (.ireturn, 1) := by decide +kernel
theorem dX9_removePoint_28 : decode cX9_removePoint 28 = .ok (.aload_n 0, 1) := by decide +kernel
theorem dX9_removePoint_29 : decode cX9_removePoint 29 = .ok (.getfield 45, 3) := by decide +kernel
theorem dX9_removePoint_32 : decode cX9_removePoint 32 = .ok (.aload_n 0, 1) := by decide +kernel
theorem dX9_removePoint_33 : decode cX9_removePoint 33 = .ok (.getfield 10, 3) := by decide +kernel
theorem dX9_removePoint_36 : decode cX9_removePoint 36 = .ok (.invokevirtual 78, 3) := by decide +kernel
theorem dX9_removePoint_39 : decode cX9_removePoint 39 = .ok (.aload_n 0, 1) := by decide +kernel
theorem dX9_removePoint_40 : decode cX9_removePoint 40 = .ok (.getfield 32, 3) := by decide +kernel
theorem dX9_removePoint_43 : decode cX9_removePoint 43 = .ok (.iload_n 1, 1) := by decide +kernel
theorem dX9_removePoint_44 : decode cX9_removePoint 44 = .ok (.invokevirtual 130, 3) := by decide +kernel
theorem dX9_removePoint_47 : decode cX9_removePoint 47 = .ok (.istore_n 2, 1) := by decide +kernel
theorem dX9_removePoint_48 : decode cX9_removePoint 48 = .ok (.aload_n 0, 1) := by decide +kernel
theorem dX9_removePoint_49 : decode cX9_removePoint 49 = .ok (.getfield 32, 3) := by decide +kernel
theorem dX9_removePoint_52 : decode cX9_removePoint 52 = .ok (.iload_n 1, 1) := by decide +kernel
theorem dX9_removePoint_53 : decode cX9_removePoint 53 = .ok (.invokevirtual 134, 3) := by decide +kernel
theorem dX9_removePoint_56 : decode cX9_removePoint 56 = .ok (.iload_n 2, 1) := by decide +kernel
theorem dX9_removePoint_57 : decode cX9_removePoint 57 = .ok (.ireturn, 1) := by decide +kernel
theorem dX9_setRow_0 : decode cX9_setRow 0 = .ok (.iload_n 1, 1) := by decide +kernel
theorem dX9_setRow_1 : decode cX9_setRow 1 = .ok (.iconst 0, 1) := by decide +kernel
theorem dX9_setRow_2 : decode cX9_setRow 2 = .ok (.sipush 3000, 3) := by decide +kernel
theorem dX9_setRow_5 : decode cX9_setRow 5 = .ok (.invokestatic 73, 3) := by decide +kernel
theorem dX9_setRow_8 : decode cX9_setRow 8 = .ok (.ifCond .eq 14, 3) := by decide +kernel
theorem dX9_setRow_11 : decode cX9_setRow 11 = .ok (.iload_n 2, 1) := by decide +kernel
theorem dX9_setRow_12 : decode cX9_setRow 12 = .ok (.iconst (-1), 1) := by decide +kernel
theorem dX9_setRow_13 : decode cX9_setRow 13 = .ok (.sipush 999, 3) := by decide +kernel
theorem dX9_setRow_16 : decode cX9_setRow 16 = .ok (.invokestatic 73, 3) := by decide +kernel
theorem dX9_setRow_19 : decode cX9_setRow 19 = .ok (.ifCond .ne 6, 3) := by decide +kernel
theorem dX9_setRow_22 : decode cX9_setRow 22 = .ok (.ldc 77, 2) := by decide +kernel
theorem dX9_setRow_24 : decode cX9_setRow 24 = .ok (.ireturn, 1) := by decide +kernel
theorem dX9_setRow_25 : decode cX9_setRow 25 = .ok (.iload_n 2, 1) := by decide +kernel
theorem dX9_setRow_26 : decode cX9_setRow 26 = .ok (.iconst (-1), 1) := by decide +kernel
theorem dX9_setRow_27 : decode cX9_setRow 27 = .ok (.if_icmp .ne 7, 3) := by decide +kernel
theorem dX9_setRow_30 : decode cX9_setRow 30 = .ok (.iconst 1, 1) := by decide +kernel
theorem dX9_setRow_31 : decode cX9_setRow 31 = .ok (.goto 4, 3) := by decide +kernel
theorem dX9_setRow_34 : decode cX9_setRow 34 = .ok (.iconst 0, 1) := by decide +kernel
theorem dX9_setRow_35 : decode cX9_setRow 35 = .ok (.istore_n 3, 1) := by decide +kernel
theorem dX9_setRow_36 : decode cX9_setRow 36 = .ok (.iload_n 3, 1) := by decide +kernel
theorem dX9_setRow_37 : decode cX9_setRow 37 = .ok (.ifCond .eq 17, 3) := by decide +kernel
theorem dX9_setRow_40 : decode cX9_setRow 40 = .ok (.aload_n 0, 1) := by decide +kernel
theorem dX9_setRow_41 : decode cX9_setRow 41 = .ok (.getfield 36, 3) := by decide +kernel
theorem dX9_setRow_44 : decode cX9_setRow 44 = .ok (.iload_n 1, 1) := by decide +kernel
theorem dX9_setRow_45 : decode cX9_setRow 45 = .ok (.invokevirtual 126, 3) := by decide +kernel
theorem dX9_setRow_48 : decode cX9_setRow 48 = .ok (.ifCond .ne 6, 3) := by decide +kernel
theorem dX9_setRow_51 : decode cX9_setRow 51 = .ok (.ldc 129, 2) := by decide +kernel
theorem dX9_setRow_53 : decode cX9_setRow 53 = .ok (.ireturn, 1) := by decide +kernel
theorem dX9_setRow_54 : decode cX9_setRow 54 = .ok (.iload_n 3, 1) := by decide +kernel
theorem dX9_setRow_55 : decode cX9_setRow 55 = .ok (.ifCond .ne 17, 3) := by decide +kernel
theorem dX9_setRow_58 : decode cX9_setRow 58 = .ok (.aload_n 0, 1) := by decide +kernel
theorem dX9_setRow_59 : decode cX9_setRow 59 = .ok (.getfield 36, 3) := by decide +kernel
theorem dX9_setRow_62 : decode cX9_setRow 62 = .ok (.iload_n 1, 1) := by decide +kernel
theorem dX9_setRow_63 : decode cX9_setRow 63 = .ok (.invokevirtual 118, 3) := by decide +kernel
theorem dX9_setRow_66 : decode cX9_setRow 66 = .ok (.ifCond .ne 6, 3) := by decide +kernel
theorem dX9_setRow_69 : decode cX9_setRow 69 = .ok (.ldc 122, 2) := by decide +kernel
theorem dX9_setRow_71 : decode cX9_setRow 71 = .ok (.ireturn, 1) := by decide +kernel
theorem dX9_setRow_72 : decode cX9_setRow 72 = .ok (.aload_n 0, 1) := by decide +kernel
theorem dX9_setRow_73 : decode cX9_setRow 73 = .ok (.getfield 45, 3) := by decide +kernel
theorem dX9_setRow_76 : decode cX9_setRow 76 = .ok (.aload_n 0, 1) := by decide +kernel
theorem dX9_setRow_77 : decode cX9_setRow 77 = .ok (.getfield 10, 3) := by decide +kernel
theorem dX9_setRow_80 : decode cX9_setRow 80 = .ok (.invokevirtual 78, 3) := by decide +kernel
theorem dX9_setRow_83 : decode cX9_setRow 83 = .ok (.iload_n 3, 1) := by decide +kernel
theorem dX9_setRow_84 : decode cX9_setRow 84 = .ok (.ifCond .eq 14, 3) := by decide +kernel
theorem dX9_setRow_87 : decode cX9_setRow 87 = .ok (.aload_n 0, 1) := by decide +kernel
theorem dX9_setRow_88 : decode cX9_setRow 88 = .ok (.getfield 36, 3) := by decide +kernel
theorem dX9_setRow_91 : decode cX9_setRow 91 = .ok (.iload_n 1, 1) := by decide +kernel
theorem dX9_setRow_92 : decode cX9_setRow 92 = .ok (.invokevirtual 134, 3) := by decide +kernel
theorem dX9_setRow_95 : decode cX9_setRow 95 = .ok (.goto 12, 3) := by decide +kernel
end
section
theorem dX9_setRow_98 : decode cX9_setRow 98 = .ok (.aload_n 0, 1) := by decide +kernel
theorem dX9_setRow_99 : decode cX9_setRow 99 = .ok (.getfield 36, 3) := by decide +kernel
theorem dX9_setRow_102 : decode cX9_setRow 102 = .ok (.iload_n 1, 1) := by decide +kernel
theorem dX9_setRow_103 : decode cX9_setRow 103 = .ok (.iload_n 2, 1) := by decide +kernel
theorem dX9_setRow_104 : decode cX9_setRow 104 = .ok (.invokevirtual 67, 3) := by decide +kernel
theorem dX9_setRow_107 : decode cX9_setRow 107 = .ok (.aload_n 0, 1) := by decide +kernel
theorem dX9_setRow_108 : decode cX9_setRow 108 = .ok (.getfield 36, 3) := by decide +kernel
theorem dX9_setRow_111 : decode cX9_setRow 111 = .ok (.getfield 123, 3) := by decide +kernel
theorem dX9_setRow_114 : decode cX9_setRow 114 = .ok (.ireturn, 1) := by decide +kernel
theorem dX9_append_0 : decode cX9_append 0 = .ok (.iload_n 1, 1) := by decide +kernel
theorem dX9_append_1 : decode cX9_append 1 = .ok (.iconst 1, 1) := by decide +kernel
theorem dX9_append_2 : decode cX9_append 2 = .ok (.sipush 255, 3) := by decide +kernel
theorem dX9_append_5 : decode cX9_append 5 = .ok (.invokestatic 73, 3) := by decide +kernel
theorem dX9_append_8 : decode cX9_append 8 = .ok (.ifCond .ne 6, 3) := by decide +kernel
theorem dX9_append_11 : decode cX9_append 11 = .ok (.ldc 77, 2) := by decide +kernel
theorem dX9_append_13 : decode cX9_append 13 = .ok (.ireturn, 1) := by decide +kernel
theorem dX9_append_14 : decode cX9_append 14 = .ok (.aload_n 0, 1) := by decide +kernel
theorem dX9_append_15 : decode cX9_append 15 = .ok (.getfield 52, 3) := by decide +kernel
theorem dX9_append_18 : decode cX9_append 18 = .ok (.getfield 138, 3) := by decide +kernel
theorem dX9_append_21 : decode cX9_append 21 = .ok (.bipush 100, 2) := by decide +kernel
theorem dX9_append_23 : decode cX9_append 23 = .ok (.if_icmp .lt 6, 3) := by decide +kernel
theorem dX9_append_26 : decode cX9_append 26 = .ok (.ldc 122, 2) := by decide +kernel
theorem dX9_append_28 : decode cX9_append 28 = .ok (.ireturn, 1) := by decide +kernel
theorem dX9_append_29 : decode cX9_append 29 = .ok (.aload_n 0, 1) := by decide +kernel
theorem dX9_append_30 : decode cX9_append 30 = .ok (.getfield 52, 3) := by decide +kernel
theorem dX9_append_33 : decode cX9_append 33 = .ok (.iload_n 1, 1) := by decide +kernel
theorem dX9_append_34 : decode cX9_append 34 = .ok (.invokevirtual 141, 3) := by decide +kernel
theorem dX9_append_37 : decode cX9_append 37 = .ok (.aload_n 0, 1) := by decide +kernel
theorem dX9_append_38 : decode cX9_append 38 = .ok (.getfield 52, 3) := by decide +kernel
theorem dX9_append_41 : decode cX9_append 41 = .ok (.getfield 138, 3) := by decide +kernel
theorem dX9_append_44 : decode cX9_append 44 = .ok (.ireturn, 1) := by decide +kernel
theorem dX9_clearText_0 : decode cX9_clearText 0 = .ok (.aload_n 0, 1) := by decide +kernel
theorem dX9_clearText_1 : decode cX9_clearText 1 = .ok (.getfield 52, 3) := by decide +kernel
theorem dX9_clearText_4 : decode cX9_clearText 4 = .ok (.getfield 138, 3) := by decide +kernel
theorem dX9_clearText_7 : decode cX9_clearText 7 = .ok (.istore_n 1, 1) := by decide +kernel
theorem dX9_clearText_8 : decode cX9_clearText 8 = .ok (.aload_n 0, 1) := by decide +kernel
theorem dX9_clearText_9 : decode cX9_clearText 9 = .ok (.getfield 52, 3) := by decide +kernel
theorem dX9_clearText_12 : decode cX9_clearText 12 = .ok (.iconst 0, 1) := by decide +kernel
theorem dX9_clearText_13 : decode cX9_clearText 13 = .ok (.putfield 138, 3) := by decide +kernel
theorem dX9_clearText_16 : decode cX9_clearText 16 = .ok (.iload_n 1, 1) := by decide +kernel
theorem dX9_clearText_17 : decode cX9_clearText 17 = .ok (.ireturn, 1) := by decide +kernel
theorem dX9_load_0 : decode cX9_load 0 = .ok (.aload_n 0, 1) := by decide +kernel
theorem dX9_load_1 : decode cX9_load 1 = .ok (.getfield 59, 3) := by decide +kernel
theorem dX9_load_4 : decode cX9_load 4 = .ok (.aload_n 0, 1) := by decide +kernel
theorem dX9_load_5 : decode cX9_load 5 = .ok (.getfield 52, 3) := by decide +kernel
theorem dX9_load_8 : decode cX9_load 8 = .ok (.invokevirtual 144, 3) := by decide +kernel
theorem dX9_load_11 : decode cX9_load 11 = .ok (.istore_n 1, 1) := by decide +kernel
theorem dX9_load_12 : decode cX9_load 12 = .ok (.iload_n 1, 1) := by decide +kernel
theorem dX9_load_13 : decode cX9_load 13 = .ok (.iconst (-1), 1) := by decide +kernel
theorem dX9_load_14 : decode cX9_load 14 = .ok (.if_icmp .eq 8, 3) := by decide +kernel
theorem dX9_load_17 : decode cX9_load 17 = .ok (.ldc 148, 2) := by decide +kernel
theorem dX9_load_19 : decode cX9_load 19 = .ok (.iload_n 1, 1) := by decide +kernel
theorem dX9_load_20 : decode cX9_load 20 = .ok (.isub, 1) := by decide +kernel
theorem dX9_load_21 : decode cX9_load 21 = .ok (.ireturn, 1) := by decide +kernel
theorem dX9_load_22 : decode cX9_load 22 = .ok (.aload_n 0, 1) := by decide +kernel
theorem dX9_load_23 : decode cX9_load 23 = .ok (.getfield 45, 3) := by decide +kernel
theorem dX9_load_26 : decode cX9_load 26 = .ok (.aload_n 0, 1) := by decide +kernel
theorem dX9_load_27 : decode cX9_load 27 = .ok (.getfield 10, 3) := by decide +kernel
theorem dX9_load_30 : decode cX9_load 30 = .ok (.invokevirtual 78, 3) := by decide +kernel
theorem dX9_load_33 : decode cX9_load 33 = .ok (.aload_n 0, 1) := by decide +kernel
theorem dX9_load_34 : decode cX9_load 34 = .ok (.getfield 32, 3) := by decide +kernel
theorem dX9_load_37 : decode cX9_load 37 = .ok (.aload_n 0, 1) := by decide +kernel
theorem dX9_load_38 : decode cX9_load 38 = .ok (.getfield 59, 3) := by decide +kernel
theorem dX9_load_41 : decode cX9_load 41 = .ok (.getfield 149, 3) := by decide +kernel
theorem dX9_load_44 : decode cX9_load 44 = .ok (.invokevirtual 152, 3) := by decide +kernel
theorem dX9_load_47 : decode cX9_load 47 = .ok (.aload_n 0, 1) := by decide +kernel
theorem dX9_load_48 : decode cX9_load 48 = .ok (.getfield 52, 3) := by decide +kernel
theorem dX9_load_51 : decode cX9_load 51 = .ok (.iconst 0, 1) := by decide +kernel
theorem dX9_load_52 : decode cX9_load 52 = .ok (.putfield 138, 3) := by decide +kernel
theorem dX9_load_55 : decode cX9_load 55 = .ok (.aload_n 0, 1) := by decide +kernel
theorem dX9_load_56 : decode cX9_load 56 = .ok (.getfield 32, 3) := by decide +kernel
theorem dX9_load_59 : decode cX9_load 59 = .ok (.getfield 123, 3) := by decide +kernel
theorem dX9_load_62 : decode cX9_load 62 = .ok (.ireturn, 1) := by decide +kernel
theorem dX9_charge_0 : decode cX9_charge 0 = .ok (.iload_n 1, 1) := by decide +kernel
theorem dX9_charge_1 : decode cX9_charge 1 = .ok (.bipush 100, 2) := by decide +kernel
theorem dX9_charge_3 : decode cX9_charge 3 = .ok (.sipush 1000, 3) := by decide +kernel
theorem dX9_charge_6 : decode cX9_charge 6 = .ok (.invokestatic 73, 3) := by decide +kernel
theorem dX9_charge_9 : decode cX9_charge 9 = .ok (.ifCond .ne 6, 3) := by decide +kernel
theorem dX9_charge_12 : decode cX9_charge 12 = .ok (.ldc 77, 2) := by decide +kernel
theorem dX9_charge_14 : decode cX9_charge 14 = .ok (.ireturn, 1) := by decide +kernel
theorem dX9_charge_15 : decode cX9_charge 15 = .ok (.aload_n 0, 1) := by decide +kernel
theorem dX9_charge_16 : decode cX9_charge 16 = .ok (.getfield 20, 3) := by decide +kernel
theorem dX9_charge_19 : decode cX9_charge 19 = .ok (.getfield 156, 3) := by decide +kernel
theorem dX9_charge_22 : decode cX9_charge 22 = .ok (.ifCond .eq 6, 3) := by decide +kernel
theorem dX9_charge_25 : decode cX9_charge 25 = .ok (.ldc 129, 2) := by decide +kernel
theorem dX9_charge_27 : decode cX9_charge 27 = .ok (.ireturn, 1) := by decide +kernel
theorem dX9_charge_28 : decode cX9_charge 28 = .ok (.aload_n 0, 1) := by decide +kernel
theorem dX9_charge_29 : decode cX9_charge 29 = .ok (.getfield 45, 3) := by decide +kernel
theorem dX9_charge_32 : decode cX9_charge 32 = .ok (.aload_n 0, 1) := by decide +kernel
theorem dX9_charge_33 : decode cX9_charge 33 = .ok (.getfield 10, 3) := by decide +kernel
theorem dX9_charge_36 : decode cX9_charge 36 = .ok (.invokevirtual 78, 3) := by decide +kernel
theorem dX9_charge_39 : decode cX9_charge 39 = .ok (.aload_n 0, 1) := by decide +kernel
theorem dX9_charge_40 : decode cX9_charge 40 = .ok (.getfield 20, 3) := by decide +kernel
theorem dX9_charge_43 : decode cX9_charge 43 = .ok (.iload_n 1, 1) := by decide +kernel
theorem dX9_charge_44 : decode cX9_charge 44 = .ok (.invokevirtual 159, 3) := by decide +kernel
theorem dX9_charge_47 : decode cX9_charge 47 = .ok (.aload_n 0, 1) := by decide +kernel
theorem dX9_charge_48 : decode cX9_charge 48 = .ok (.getfield 20, 3) := by decide +kernel
theorem dX9_charge_51 : decode cX9_charge 51 = .ok (.getfield 162, 3) := by decide +kernel
theorem dX9_charge_54 : decode cX9_charge 54 = .ok (.ireturn, 1) := by decide +kernel
theorem dX9_drop_0 : decode cX9_drop 0 = .ok (.aload_n 0, 1) := by decide +kernel
theorem dX9_drop_1 : decode cX9_drop 1 = .ok (.getfield 20, 3) := by decide +kernel
theorem dX9_drop_4 : decode cX9_drop 4 = .ok (.getfield 156, 3) := by decide +kernel
theorem dX9_drop_7 : decode cX9_drop 7 = .ok (.iconst 1, 1) := by decide +kernel
theorem dX9_drop_8 : decode cX9_drop 8 = .ok (.if_icmp .eq 6, 3) := by decide +kernel
theorem dX9_drop_11 : decode cX9_drop 11 = .ok (.ldc 129, 2) := by decide +kernel
theorem dX9_drop_13 : decode cX9_drop 13 = .ok (.ireturn, 1) := by decide +kernel
theorem dX9_drop_14 : decode cX9_drop 14 = .ok (.aload_n 0, 1) := by decide +kernel
theorem dX9_drop_15 : decode cX9_drop 15 = .ok (.getfield 45, 3) := by decide +kernel
theorem dX9_drop_18 : decode cX9_drop 18 = .ok (.aload_n 0, 1) := by decide +kernel
theorem dX9_drop_19 : decode cX9_drop 19 = .ok (.getfield 10, 3) := by decide +kernel
theorem dX9_drop_22 : decode cX9_drop 22 = .ok (.invokevirtual 78, 3) := by decide +kernel
theorem dX9_drop_25 : decode cX9_drop 25 = .ok (.aload_n 0, 1) := by decide +kernel
theorem dX9_drop_26 : decode cX9_drop 26 = .ok (.getfield 20, 3) := by decide +kernel
theorem dX9_drop_29 : decode cX9_drop 29 = .ok (.iconst 2, 1) := by decide +kernel
theorem dX9_drop_30 : decode cX9_drop 30 = .ok (.putfield 156, 3) := by decide +kernel
theorem dX9_drop_33 : decode cX9_drop 33 = .ok (.aload_n 0, 1) := by decide +kernel
theorem dX9_drop_34 : decode cX9_drop 34 = .ok (.getfield 41, 3) := by decide +kernel
theorem dX9_drop_37 : decode cX9_drop 37 = .ok (.aload_n 0, 1) := by decide +kernel
theorem dX9_drop_38 : decode cX9_drop 38 = .ok (.getfield 20, 3) := by decide +kernel
theorem dX9_drop_41 : decode cX9_drop 41 = .ok (.getfield 165, 3) := by decide +kernel
theorem dX9_drop_44 : decode cX9_drop 44 = .ok (.invokevirtual 169, 3) := by decide +kernel
theorem dX9_drop_47 : decode cX9_drop 47 = .ok (.aload_n 0, 1) := by decide +kernel
theorem dX9_drop_48 : decode cX9_drop 48 = .ok (.getfield 27, 3) := by decide +kernel
theorem dX9_drop_51 : decode cX9_drop 51 = .ok (.aload_n 0, 1) := by decide +kernel
theorem dX9_drop_52 : decode cX9_drop 52 = .ok (.getfield 27, 3) := by decide +kernel
theorem dX9_drop_55 : decode cX9_drop 55 = .ok (.getfield 103, 3) := by decide +kernel
theorem dX9_drop_58 : decode cX9_drop 58 = .ok (.aload_n 0, 1) := by decide +kernel
theorem dX9_drop_59 : decode cX9_drop 59 = .ok (.getfield 27, 3) := by decide +kernel
theorem dX9_drop_62 : decode cX9_drop 62 = .ok (.getfield 106, 3) := by decide +kernel
theorem dX9_drop_65 : decode cX9_drop 65 = .ok (.iadd, 1) := by decide +kernel
theorem dX9_drop_66 : decode cX9_drop 66 = .ok (.bipush 60, 2) := by decide +kernel
theorem dX9_drop_68 : decode cX9_drop 68 = .ok (.invokestatic 175, 3) := by decide +kernel
theorem dX9_drop_71 : decode cX9_drop 71 = .ok (.putfield 103, 3) := by decide +kernel
theorem dX9_drop_74 : decode cX9_drop 74 = .ok (.aload_n 0, 1) := by decide +kernel
theorem dX9_drop_75 : decode cX9_drop 75 = .ok (.getfield 20, 3) := by decide +kernel
theorem dX9_drop_78 : decode cX9_drop 78 = .ok (.getfield 165, 3) := by decide +kernel
theorem dX9_drop_81 : decode cX9_drop 81 = .ok (.getfield 181, 3) := by decide +kernel
theorem dX9_drop_84 : decode cX9_drop 84 = .ok (.ireturn, 1) := by decide +kernel
theorem dX9_takeAway_0 : decode cX9_takeAway 0 = .ok (.aload_n 0, 1) := by decide +kernel
theorem dX9_takeAway_1 : decode cX9_takeAway 1 = .ok (.getfield 20, 3) := by decide +kernel
theorem dX9_takeAway_4 : decode cX9_takeAway 4 = .ok (.getfield 156, 3) := by decide +kernel
theorem dX9_takeAway_7 : decode cX9_takeAway 7 = .ok (.iconst 2, 1) := by decide +kernel
theorem dX9_takeAway_8 : decode cX9_takeAway 8 = .ok (.if_icmp .ne 27, 3) := by decide +kernel
theorem dX9_takeAway_11 : decode cX9_takeAway 11 = .ok (.aload_n 0, 1) := by decide +kernel
theorem dX9_takeAway_12 : decode cX9_takeAway 12 = .ok (.getfield 20, 3) := by decide +kernel
theorem dX9_takeAway_15 : decode cX9_takeAway 15 = .ok (.getfield 165, 3) := by decide +kernel
theorem dX9_takeAway_18 : decode cX9_takeAway 18 = .ok (.getfield 186, 3) := by decide +kernel
theorem dX9_takeAway_21 : decode cX9_takeAway 21 = .ok (.aload_n 0, 1) := by decide +kernel
theorem dX9_takeAway_22 : decode cX9_takeAway 22 = .ok (.getfield 27, 3) := by decide +kernel
theorem dX9_takeAway_25 : decode cX9_takeAway 25 = .ok (.getfield 82, 3) := by decide +kernel
theorem dX9_takeAway_28 : decode cX9_takeAway 28 = .ok (.isub, 1) := by decide +kernel
theorem dX9_takeAway_29 : decode cX9_takeAway 29 = .ok (.sipush 150, 3) := by decide +kernel
theorem dX9_takeAway_32 : decode cX9_takeAway 32 = .ok (.if_icmp .le 6, 3) := by decide +kernel
theorem dX9_takeAway_35 : decode cX9_takeAway 35 = .ok (.ldc 129, 2) := by decide +kernel
theorem dX9_takeAway_37 : decode cX9_takeAway 37 = .ok (.ireturn, 1) := by decide +kernel
theorem dX9_takeAway_38 : decode cX9_takeAway 38 = .ok (.aload_n 0, 1) := by decide +kernel
theorem dX9_takeAway_39 : decode cX9_takeAway 39 = .ok (.getfield 45, 3) := by decide +kernel
theorem dX9_takeAway_42 : decode cX9_takeAway 42 = .ok (.aload_n 0, 1) := by decide +kernel
theorem dX9_takeAway_43 : decode cX9_takeAway 43 = .ok (.getfield 10, 3) := by decide +kernel
theorem dX9_takeAway_46 : decode cX9_takeAway 46 = .ok (.invokevirtual 78, 3) := by decide +kernel
theorem dX9_takeAway_49 : decode cX9_takeAway 49 = .ok (.aload_n 0, 1) := by decide +kernel
theorem dX9_takeAway_50 : decode cX9_takeAway 50 = .ok (.getfield 20, 3) := by decide +kernel
theorem dX9_takeAway_53 : decode cX9_takeAway 53 = .ok (.iconst 0, 1) := by decide +kernel
theorem dX9_takeAway_54 : decode cX9_takeAway 54 = .ok (.putfield 156, 3) := by decide +kernel
theorem dX9_takeAway_57 : decode cX9_takeAway 57 = .ok (.aload_n 0, 1) := by decide +kernel
theorem dX9_takeAway_58 : decode cX9_takeAway 58 = .ok (.getfield 20, 3) := by decide +kernel
theorem dX9_takeAway_61 : decode cX9_takeAway 61 = .ok (.getfield 165, 3) := by decide +kernel
theorem dX9_takeAway_64 : decode cX9_takeAway 64 = .ok (.getfield 186, 3) := by decide +kernel
theorem dX9_takeAway_67 : decode cX9_takeAway 67 = .ok (.ireturn, 1) := by decide +kernel
theorem dX9_run_0 : decode cX9_run 0 = .ok (.iload_n 1, 1) := by decide +kernel
theorem dX9_run_1 : decode cX9_run 1 = .ok (.iconst 1, 1) := by decide +kernel
theorem dX9_run_2 : decode cX9_run 2 = .ok (.sipush 200, 3) := by decide +kernel
theorem dX9_run_5 : decode cX9_run 5 = .ok (.invokestatic 73, 3) := by decide +kernel
theorem dX9_run_8 : decode cX9_run 8 = .ok (.ifCond .ne 6, 3) := by decide +kernel
theorem dX9_run_11 : decode cX9_run 11 = .ok (.ldc 77, 2) := by decide +kernel
theorem dX9_run_13 : decode cX9_run 13 = .ok (.ireturn, 1) := by decide +kernel
theorem dX9_run_14 : decode cX9_run 14 = .ok (.aload_n 0, 1) := by decide +kernel
theorem dX9_run_15 : decode cX9_run 15 = .ok (.getfield 20, 3) := by decide +kernel
theorem dX9_run_18 : decode cX9_run 18 = .ok (.getfield 189, 3) := by decide +kernel
theorem dX9_run_21 : decode cX9_run 21 = .ok (.iload_n 1, 1) := by decide +kernel
theorem dX9_run_22 : decode cX9_run 22 = .ok (.iadd, 1) := by decide +kernel
theorem dX9_run_23 : decode cX9_run 23 = .ok (.sipush 10000, 3) := by decide +kernel
theorem dX9_run_26 : decode cX9_run 26 = .ok (.if_icmp .le 6, 3) := by decide +kernel
theorem dX9_run_29 : decode cX9_run 29 = .ok (.ldc 122, 2) := by decide +kernel
theorem dX9_run_31 : decode cX9_run 31 = .ok (.ireturn, 1) := by decide +kernel
theorem dX9_run_32 : decode cX9_run 32 = .ok (.aload_n 0, 1) := by decide +kernel
theorem dX9_run_33 : decode cX9_run 33 = .ok (.getfield 45, 3) := by decide +kernel
theorem dX9_run_36 : decode cX9_run 36 = .ok (.aload_n 0, 1) := by decide +kernel
theorem dX9_run_37 : decode cX9_run 37 = .ok (.getfield 10, 3) := by decide +kernel
theorem dX9_run_40 : decode cX9_run 40 = .ok (.invokevirtual 78, 3) := by decide +kernel
theorem dX9_run_43 : decode cX9_run 43 = .ok (.iconst 0, 1) := by decide +kernel
theorem dX9_run_44 : decode cX9_run 44 = .ok (.istore_n 2, 1) := by decide +kernel
theorem dX9_run_45 : decode cX9_run 45 = .ok (.iload_n 2, 1) := by decide +kernel
theorem dX9_run_46 : decode cX9_run 46 = .ok (.iload_n 1, 1) := by decide +kernel
theorem dX9_run_47 : decode cX9_run 47 = .ok (.if_icmp .ge 24, 3) := by decide +kernel
theorem dX9_run_50 : decode cX9_run 50 = .ok (.aload_n 0, 1) := by decide +kernel
theorem dX9_run_51 : decode cX9_run 51 = .ok (.getfield 20, 3) := by decide +kernel
theorem dX9_run_54 : decode cX9_run 54 = .ok (.aload_n 0, 1) := by decide +kernel
theorem dX9_run_55 : decode cX9_run 55 = .ok (.getfield 32, 3) := by decide +kernel
theorem dX9_run_58 : decode cX9_run 58 = .ok (.aload_n 0, 1) := by decide +kernel
theorem dX9_run_59 : decode cX9_run 59 = .ok (.getfield 36, 3) := by decide +kernel
theorem dX9_run_62 : decode cX9_run 62 = .ok (.invokevirtual 192, 3) := by decide +kernel
theorem dX9_run_65 : decode cX9_run 65 = .ok (.iinc 2 1, 3) := by decide +kernel
theorem dX9_run_68 : decode cX9_run 68 = .ok (.goto (-23), 3) := by decide +kernel
theorem dX9_run_71 : decode cX9_run 71 = .ok (.aload_n 0, 1) := by decide +kernel
theorem dX9_run_72 : decode cX9_run 72 = .ok (.getfield 20, 3) := by decide +kernel
theorem dX9_run_75 : decode cX9_run 75 = .ok (.getfield 196, 3) := by decide +kernel
theorem dX9_run_78 : decode cX9_run 78 = .ok (.ireturn, 1) := by decide +kernel
theorem dX9_undo_0 : decode cX9_undo 0 = .ok (.aload_n 0, 1) := by decide +kernel
theorem dX9_undo_1 : decode cX9_undo 1 = .ok (.getfield 45, 3) := by decide +kernel
theorem dX9_undo_4 : decode cX9_undo 4 = .ok (.getfield 199, 3) := by decide +kernel
theorem dX9_undo_7 : decode cX9_undo 7 = .ok (.ifCond .gt 6, 3) := by decide +kernel
theorem dX9_undo_10 : decode cX9_undo 10 = .ok (.ldc 129, 2) := by decide +kernel
theorem dX9_undo_12 : decode cX9_undo 12 = .ok (.ireturn, 1) := by decide +kernel
theorem dX9_undo_13 : decode cX9_undo 13 = .ok (.aload_n 0, 1) := by decide +kernel
theorem dX9_undo_14 : decode cX9_undo 14 = .ok (.getfield 45, 3) := by decide +kernel
theorem dX9_undo_17 : decode cX9_undo 17 = .ok (.aload_n 0, 1) := by decide +kernel
theorem dX9_undo_18 : decode cX9_undo 18 = .ok (.getfield 10, 3) := by decide +kernel
theorem dX9_undo_21 : decode cX9_undo 21 = .ok (.invokevirtual 200, 3) := by decide +kernel
theorem dX9_undo_24 : decode cX9_undo 24 = .ok (.aload_n 0, 1) := by decide +kernel
theorem dX9_undo_25 : decode cX9_undo 25 = .ok (.getfield 45, 3) := by decide +kernel
theorem dX9_undo_28 : decode cX9_undo 28 = .ok (.getfield 199, 3) := by decide +kernel
theorem dX9_undo_31 : decode cX9_undo 31 = .ok (.ireturn, 1) := by decide +kernel
theorem dX9_count_0 : decode cX9_count 0 = .ok (.iload_n 1, 1) := by decide +kernel
theorem dX9_count_1 : decode cX9_count 1 = .ok (.tableswitch 171 0 12 #[67, 75, 83, 91, 99, 107, 115, 123, 131, 139, 147, 155, 163], 67) := by decide +kernel
theorem dX9_count_68 : decode cX9_count 68 = .ok (.aload_n 0, 1) := by decide +kernel
theorem dX9_count_69 : decode cX9_count 69 = .ok (.getfield 20, 3) := by decide +kernel
theorem dX9_count_72 : decode cX9_count 72 = .ok (.getfield 189, 3) := by decide +kernel
theorem dX9_count_75 : decode cX9_count 75 = .ok (.ireturn, 1) := by decide +kernel
theorem dX9_count_76 : decode cX9_count 76 = .ok (.aload_n 0, 1) := by decide +kernel
theorem dX9_count_77 : decode cX9_count 77 = .ok (.getfield 20, 3) := by decide +kernel
theorem dX9_count_80 : decode cX9_count 80 = .ok (.getfield 156, 3) := by decide +kernel
theorem dX9_count_83 : decode cX9_count 83 = .ok (.ireturn, 1) := by decide +kernel
theorem dX9_count_84 : decode cX9_count 84 = .ok (.aload_n 0, 1) := by decide +kernel
theorem dX9_count_85 : decode cX9_count 85 = .ok (.getfield 20, 3) := by decide +kernel
theorem dX9_count_88 : decode cX9_count 88 = .ok (.getfield 162, 3) := by decide +kernel
theorem dX9_count_91 : decode cX9_count 91 = .ok (.ireturn, 1) := by decide +kernel
theorem dX9_count_92 : decode cX9_count 92 = .ok (.aload_n 0, 1) := by decide +kernel
theorem dX9_count_93 : decode cX9_count 93 = .ok (.getfield 20, 3) := by decide +kernel
theorem dX9_count_96 : decode cX9_count 96 = .ok (.getfield 196, 3) := by decide +kernel
theorem dX9_count_99 : decode cX9_count 99 = .ok (.ireturn, 1) := by decide +kernel
theorem dX9_count_100 : decode cX9_count 100 = .ok (.aload_n 0, 1) := by decide +kernel
theorem dX9_count_101 : decode cX9_count 101 = .ok (.getfield 27, 3) := by decide +kernel
theorem dX9_count_104 : decode cX9_count 104 = .ok (.getfield 82, 3) := by decide +kernel
theorem dX9_count_107 : decode cX9_count 107 = .ok (.ireturn, 1) := by decide +kernel
theorem dX9_count_108 : decode cX9_count 108 = .ok (.aload_n 0, 1) := by decide +kernel
theorem dX9_count_109 : decode cX9_count 109 = .ok (.getfield 20, 3) := by decide +kernel
theorem dX9_count_112 : decode cX9_count 112 = .ok (.getfield 88, 3) := by decide +kernel
theorem dX9_count_115 : decode cX9_count 115 = .ok (.ireturn, 1) := by decide +kernel
theorem dX9_count_116 : decode cX9_count 116 = .ok (.aload_n 0, 1) := by decide +kernel
theorem dX9_count_117 : decode cX9_count 117 = .ok (.getfield 27, 3) := by decide +kernel
theorem dX9_count_120 : decode cX9_count 120 = .ok (.getfield 103, 3) := by decide +kernel
theorem dX9_count_123 : decode cX9_count 123 = .ok (.ireturn, 1) := by decide +kernel
theorem dX9_count_124 : decode cX9_count 124 = .ok (.aload_n 0, 1) := by decide +kernel
theorem dX9_count_125 : decode cX9_count 125 = .ok (.getfield 20, 3) := by decide +kernel
theorem dX9_count_128 : decode cX9_count 128 = .ok (.getfield 203, 3) := by decide +kernel
theorem dX9_count_131 : decode cX9_count 131 = .ok (.ireturn, 1) := by decide +kernel
theorem dX9_count_132 : decode cX9_count 132 = .ok (.aload_n 0, 1) := by decide +kernel
theorem dX9_count_133 : decode cX9_count 133 = .ok (.getfield 32, 3) := by decide +kernel
theorem dX9_count_136 : decode cX9_count 136 = .ok (.getfield 123, 3) := by decide +kernel
theorem dX9_count_139 : decode cX9_count 139 = .ok (.ireturn, 1) := by decide +kernel
theorem dX9_count_140 : decode cX9_count 140 = .ok (.aload_n 0, 1) := by decide +kernel
theorem dX9_count_141 : decode cX9_count 141 = .ok (.getfield 36, 3) := by decide +kernel
theorem dX9_count_144 : decode cX9_count 144 = .ok (.getfield 123, 3) := by decide +kernel
theorem dX9_count_147 : decode cX9_count 147 = .ok (.ireturn, 1) := by decide +kernel
theorem dX9_count_148 : decode cX9_count 148 = .ok (.aload_n 0, 1) := by decide +kernel
theorem dX9_count_149 : decode cX9_count 149 = .ok (.getfield 41, 3) := by decide +kernel
theorem dX9_count_152 : decode cX9_count 152 = .ok (.getfield 206, 3) := by decide +kernel
theorem dX9_count_155 : decode cX9_count 155 = .ok (.ireturn, 1) := by decide +kernel
theorem dX9_count_156 : decode cX9_count 156 = .ok (.aload_n 0, 1) := by decide +kernel
theorem dX9_count_157 : decode cX9_count 157 = .ok (.getfield 45, 3) := by decide +kernel
theorem dX9_count_160 : decode cX9_count 160 = .ok (.getfield 199, 3) := by decide +kernel
theorem dX9_count_163 : decode cX9_count 163 = .ok (.ireturn, 1) := by decide +kernel
theorem dX9_count_164 : decode cX9_count 164 = .ok (.aload_n 0, 1) := by decide +kernel
theorem dX9_count_165 : decode cX9_count 165 = .ok (.getfield 52, 3) := by decide +kernel
theorem dX9_count_168 : decode cX9_count 168 = .ok (.getfield 138, 3) := by decide +kernel
theorem dX9_count_171 : decode cX9_count 171 = .ok (.ireturn, 1) := by decide +kernel
theorem dX9_count_172 : decode cX9_count 172 = .ok (.ldc 77, 2) := by decide +kernel
theorem dX9_count_174 : decode cX9_count 174 = .ok (.ireturn, 1) := by decide +kernel
theorem dX9_batch_0 : decode cX9_batch 0 = .ok (.iload_n 1, 1) := by decide +kernel
theorem dX9_batch_1 : decode cX9_batch 1 = .ok (.iconst 0, 1) := by decide +kernel
theorem dX9_batch_2 : decode cX9_batch 2 = .ok (.bipush 9, 2) := by decide +kernel
theorem dX9_batch_4 : decode cX9_batch 4 = .ok (.invokestatic 73, 3) := by decide +kernel
theorem dX9_batch_7 : decode cX9_batch 7 = .ok (.ifCond .ne 6, 3) := by decide +kernel
theorem dX9_batch_10 : decode cX9_batch 10 = .ok (.ldc 77, 2) := by decide +kernel
theorem dX9_batch_12 : decode cX9_batch 12 = .ok (.ireturn, 1) := by decide +kernel
theorem dX9_batch_13 : decode cX9_batch 13 = .ok (.aload_n 0, 1) := by decide +kernel
theorem dX9_batch_14 : decode cX9_batch 14 = .ok (.getfield 20, 3) := by decide +kernel
theorem dX9_batch_17 : decode cX9_batch 17 = .ok (.getfield 156, 3) := by decide +kernel
theorem dX9_batch_20 : decode cX9_batch 20 = .ok (.ifCond .ne 6, 3) := by decide +kernel
theorem dX9_batch_23 : decode cX9_batch 23 = .ok (.ldc 129, 2) := by decide +kernel
theorem dX9_batch_25 : decode cX9_batch 25 = .ok (.ireturn, 1) := by decide +kernel
theorem dX9_batch_26 : decode cX9_batch 26 = .ok (.aload_n 0, 1) := by decide +kernel
theorem dX9_batch_27 : decode cX9_batch 27 = .ok (.getfield 20, 3) := by decide +kernel
theorem dX9_batch_30 : decode cX9_batch 30 = .ok (.getfield 165, 3) := by decide +kernel
theorem dX9_batch_33 : decode cX9_batch 33 = .ok (.iload_n 1, 1) := by decide +kernel
theorem dX9_batch_34 : decode cX9_batch 34 = .ok (.invokevirtual 207, 3) := by decide +kernel
theorem dX9_batch_37 : decode cX9_batch 37 = .ok (.ireturn, 1) := by decide +kernel
theorem dX9_target_0 : decode cX9_target 0 = .ok (.iload_n 1, 1) := by decide +kernel
theorem dX9_target_1 : decode cX9_target 1 = .ok (.iconst 0, 1) := by decide +kernel
theorem dX9_target_2 : decode cX9_target 2 = .ok (.sipush 1000, 3) := by decide +kernel
theorem dX9_target_5 : decode cX9_target 5 = .ok (.invokestatic 73, 3) := by decide +kernel
theorem dX9_target_8 : decode cX9_target 8 = .ok (.ifCond .ne 6, 3) := by decide +kernel
theorem dX9_target_11 : decode cX9_target 11 = .ok (.ldc 77, 2) := by decide +kernel
theorem dX9_target_13 : decode cX9_target 13 = .ok (.ireturn, 1) := by decide +kernel
theorem dX9_target_14 : decode cX9_target 14 = .ok (.aload_n 0, 1) := by decide +kernel
theorem dX9_target_15 : decode cX9_target 15 = .ok (.getfield 32, 3) := by decide +kernel
theorem dX9_target_18 : decode cX9_target 18 = .ok (.getfield 123, 3) := by decide +kernel
theorem dX9_target_21 : decode cX9_target 21 = .ok (.ifCond .ne 8, 3) := by decide +kernel
theorem dX9_target_24 : decode cX9_target 24 = .ok (.ldc 210, 2) := by decide +kernel
theorem dX9_target_26 : decode cX9_target 26 = .ok (.goto 11, 3) := by decide +kernel
theorem dX9_target_29 : decode cX9_target 29 = .ok (.aload_n 0, 1) := by decide +kernel
theorem dX9_target_30 : decode cX9_target 30 = .ok (.getfield 32, 3) := by decide +kernel
theorem dX9_target_33 : decode cX9_target 33 = .ok (.iload_n 1, 1) := by decide +kernel
theorem dX9_target_34 : decode cX9_target 34 = .ok (.invokevirtual 211, 3) := by decide +kernel
theorem dX9_target_37 : decode cX9_target 37 = .ok (.ireturn, 1) := by decide +kernel
theorem dX9_rate_0 : decode cX9_rate 0 = .ok (.iload_n 1, 1) := by decide +kernel
theorem dX9_rate_1 : decode cX9_rate 1 = .ok (.iconst 0, 1) := by decide +kernel
theorem dX9_rate_2 : decode cX9_rate 2 = .ok (.sipush 3000, 3) := by decide +kernel
theorem dX9_rate_5 : decode cX9_rate 5 = .ok (.invokestatic 73, 3) := by decide +kernel
theorem dX9_rate_8 : decode cX9_rate 8 = .ok (.ifCond .ne 6, 3) := by decide +kernel
theorem dX9_rate_11 : decode cX9_rate 11 = .ok (.ldc 77, 2) := by decide +kernel
theorem dX9_rate_13 : decode cX9_rate 13 = .ok (.ireturn, 1) := by decide +kernel
theorem dX9_rate_14 : decode cX9_rate 14 = .ok (.aload_n 0, 1) := by decide +kernel
theorem dX9_rate_15 : decode cX9_rate 15 = .ok (.getfield 36, 3) := by decide +kernel
theorem dX9_rate_18 : decode cX9_rate 18 = .ok (.iload_n 1, 1) := by decide +kernel
theorem dX9_rate_19 : decode cX9_rate 19 = .ok (.invokevirtual 130, 3) := by decide +kernel
theorem dX9_rate_22 : decode cX9_rate 22 = .ok (.ireturn, 1) := by decide +kernel
theorem dX9_logged_0 : decode cX9_logged 0 = .ok (.iload_n 1, 1) := by decide +kernel
theorem dX9_logged_1 : decode cX9_logged 1 = .ok (.ifCond .lt 12, 3) := by decide +kernel
theorem dX9_logged_4 : decode cX9_logged 4 = .ok (.iload_n 2, 1) := by decide +kernel
theorem dX9_logged_5 : decode cX9_logged 5 = .ok (.iconst 0, 1) := by decide +kernel
theorem dX9_logged_6 : decode cX9_logged 6 = .ok (.iconst 5, 1) := by decide +kernel
theorem dX9_logged_7 : decode cX9_logged 7 = .ok (.invokestatic 73, 3) := by decide +kernel
theorem dX9_logged_10 : decode cX9_logged 10 = .ok (.ifCond .ne 6, 3) := by decide +kernel
theorem dX9_logged_13 : decode cX9_logged 13 = .ok (.ldc 77, 2) := by decide +kernel
theorem dX9_logged_15 : decode cX9_logged 15 = .ok (.ireturn, 1) := by decide +kernel
theorem dX9_logged_16 : decode cX9_logged 16 = .ok (.iload_n 1, 1) := by decide +kernel
theorem dX9_logged_17 : decode cX9_logged 17 = .ok (.aload_n 0, 1) := by decide +kernel
theorem dX9_logged_18 : decode cX9_logged 18 = .ok (.getfield 41, 3) := by decide +kernel
theorem dX9_logged_21 : decode cX9_logged 21 = .ok (.getfield 206, 3) := by decide +kernel
theorem dX9_logged_24 : decode cX9_logged 24 = .ok (.if_icmp .ge 15, 3) := by decide +kernel
theorem dX9_logged_27 : decode cX9_logged 27 = .ok (.aload_n 0, 1) := by decide +kernel
theorem dX9_logged_28 : decode cX9_logged 28 = .ok (.getfield 41, 3) := by decide +kernel
theorem dX9_logged_31 : decode cX9_logged 31 = .ok (.iload_n 1, 1) := by decide +kernel
theorem dX9_logged_32 : decode cX9_logged 32 = .ok (.iload_n 2, 1) := by decide +kernel
theorem dX9_logged_33 : decode cX9_logged 33 = .ok (.invokevirtual 214, 3) := by decide +kernel
theorem dX9_logged_36 : decode cX9_logged 36 = .ok (.goto 5, 3) := by decide +kernel
theorem dX9_logged_39 : decode cX9_logged 39 = .ok (.ldc 210, 2) := by decide +kernel
theorem dX9_logged_41 : decode cX9_logged 41 = .ok (.ireturn, 1) := by decide +kernel
theorem dX9_drift_0 : decode cX9_drift 0 = .ok (.iload_n 1, 1) := by decide +kernel
theorem dX9_drift_1 : decode cX9_drift 1 = .ok (.iconst 1, 1) := by decide +kernel
theorem dX9_drift_2 : decode cX9_drift 2 = .ok (.iconst 5, 1) := by decide +kernel
theorem dX9_drift_3 : decode cX9_drift 3 = .ok (.invokestatic 73, 3) := by decide +kernel
theorem dX9_drift_6 : decode cX9_drift 6 = .ok (.ifCond .ne 6, 3) := by decide +kernel
theorem dX9_drift_9 : decode cX9_drift 9 = .ok (.ldc 77, 2) := by decide +kernel
theorem dX9_drift_11 : decode cX9_drift 11 = .ok (.ireturn, 1) := by decide +kernel
theorem dX9_drift_12 : decode cX9_drift 12 = .ok (.aload_n 0, 1) := by decide +kernel
theorem dX9_drift_13 : decode cX9_drift 13 = .ok (.getfield 41, 3) := by decide +kernel
theorem dX9_drift_16 : decode cX9_drift 16 = .ok (.iload_n 1, 1) := by decide +kernel
theorem dX9_drift_17 : decode cX9_drift 17 = .ok (.invokevirtual 217, 3) := by decide +kernel
theorem dX9_drift_20 : decode cX9_drift 20 = .ok (.ireturn, 1) := by decide +kernel
theorem dX9_ticksTo_0 : decode cX9_ticksTo 0 = .ok (.iload_n 1, 1) := by decide +kernel
theorem dX9_ticksTo_1 : decode cX9_ticksTo 1 = .ok (.iconst 0, 1) := by decide +kernel
theorem dX9_ticksTo_2 : decode cX9_ticksTo 2 = .ok (.sipush 3000, 3) := by decide +kernel
theorem dX9_ticksTo_5 : decode cX9_ticksTo 5 = .ok (.invokestatic 73, 3) := by decide +kernel
theorem dX9_ticksTo_8 : decode cX9_ticksTo 8 = .ok (.ifCond .ne 6, 3) := by decide +kernel
theorem dX9_ticksTo_11 : decode cX9_ticksTo 11 = .ok (.ldc 77, 2) := by decide +kernel
theorem dX9_ticksTo_13 : decode cX9_ticksTo 13 = .ok (.ireturn, 1) := by decide +kernel
theorem dX9_ticksTo_14 : decode cX9_ticksTo 14 = .ok (.aload_n 0, 1) := by decide +kernel
theorem dX9_ticksTo_15 : decode cX9_ticksTo 15 = .ok (.getfield 20, 3) := by decide +kernel
theorem dX9_ticksTo_18 : decode cX9_ticksTo 18 = .ok (.getfield 156, 3) := by decide +kernel
theorem dX9_ticksTo_21 : decode cX9_ticksTo 21 = .ok (.iconst 1, 1) := by decide +kernel
theorem dX9_ticksTo_22 : decode cX9_ticksTo 22 = .ok (.if_icmp .eq 6, 3) := by decide +kernel
theorem dX9_ticksTo_25 : decode cX9_ticksTo 25 = .ok (.ldc 129, 2) := by decide +kernel
theorem dX9_ticksTo_27 : decode cX9_ticksTo 27 = .ok (.ireturn, 1) := by decide +kernel
theorem dX9_ticksTo_28 : decode cX9_ticksTo 28 = .ok (.aload_n 0, 1) := by decide +kernel
theorem dX9_ticksTo_29 : decode cX9_ticksTo 29 = .ok (.getfield 64, 3) := by decide +kernel
theorem dX9_ticksTo_32 : decode cX9_ticksTo 32 = .ok (.aload_n 0, 1) := by decide +kernel
theorem dX9_ticksTo_33 : decode cX9_ticksTo 33 = .ok (.getfield 20, 3) := by decide +kernel
theorem dX9_ticksTo_36 : decode cX9_ticksTo 36 = .ok (.invokevirtual 220, 3) := by decide +kernel
theorem dX9_ticksTo_39 : decode cX9_ticksTo 39 = .ok (.iconst 0, 1) := by decide +kernel
theorem dX9_ticksTo_40 : decode cX9_ticksTo 40 = .ok (.istore_n 2, 1) := by decide +kernel
theorem dX9_ticksTo_41 : decode cX9_ticksTo 41 = .ok (.iload_n 2, 1) := by decide +kernel
theorem dX9_ticksTo_42 : decode cX9_ticksTo 42 = .ok (.sipush 200, 3) := by decide +kernel
theorem dX9_ticksTo_45 : decode cX9_ticksTo 45 = .ok (.if_icmp .gt 40, 3) := by decide +kernel
theorem dX9_ticksTo_48 : decode cX9_ticksTo 48 = .ok (.aload_n 0, 1) := by decide +kernel
theorem dX9_ticksTo_49 : decode cX9_ticksTo 49 = .ok (.getfield 64, 3) := by decide +kernel
theorem dX9_ticksTo_52 : decode cX9_ticksTo 52 = .ok (.getfield 165, 3) := by decide +kernel
theorem dX9_ticksTo_55 : decode cX9_ticksTo 55 = .ok (.getfield 186, 3) := by decide +kernel
theorem dX9_ticksTo_58 : decode cX9_ticksTo 58 = .ok (.iload_n 1, 1) := by decide +kernel
theorem dX9_ticksTo_59 : decode cX9_ticksTo 59 = .ok (.if_icmp .lt 5, 3) := by decide +kernel
theorem dX9_ticksTo_62 : decode cX9_ticksTo 62 = .ok (.iload_n 2, 1) := by decide +kernel
theorem dX9_ticksTo_63 : decode cX9_ticksTo 63 = .ok (.ireturn, 1) := by decide +kernel
theorem dX9_ticksTo_64 : decode cX9_ticksTo 64 = .ok (.aload_n 0, 1) := by decide +kernel
theorem dX9_ticksTo_65 : decode cX9_ticksTo 65 = .ok (.getfield 64, 3) := by decide +kernel
theorem dX9_ticksTo_68 : decode cX9_ticksTo 68 = .ok (.aload_n 0, 1) := by decide +kernel
theorem dX9_ticksTo_69 : decode cX9_ticksTo 69 = .ok (.getfield 32, 3) := by decide +kernel
theorem dX9_ticksTo_72 : decode cX9_ticksTo 72 = .ok (.aload_n 0, 1) := by decide +kernel
theorem dX9_ticksTo_73 : decode cX9_ticksTo 73 = .ok (.getfield 36, 3) := by decide +kernel
theorem dX9_ticksTo_76 : decode cX9_ticksTo 76 = .ok (.invokevirtual 192, 3) := by decide +kernel
theorem dX9_ticksTo_79 : decode cX9_ticksTo 79 = .ok (.iinc 2 1, 3) := by decide +kernel
theorem dX9_ticksTo_82 : decode cX9_ticksTo 82 = .ok (.goto (-41), 3) := by decide +kernel
theorem dX9_ticksTo_85 : decode cX9_ticksTo 85 = .ok (.ldc 210, 2) := by decide +kernel
theorem dX9_ticksTo_87 : decode cX9_ticksTo 87 = .ok (.ireturn, 1) := by decide +kernel
theorem dX9_ticksToLoss_0 : decode cX9_ticksToLoss 0 = .ok (.iload_n 1, 1) := by decide +kernel
theorem dX9_ticksToLoss_1 : decode cX9_ticksToLoss 1 = .ok (.iconst 0, 1) := by decide +kernel
theorem dX9_ticksToLoss_2 : decode cX9_ticksToLoss 2 = .ok (.ldc 223, 2) := by decide +kernel
theorem dX9_ticksToLoss_4 : decode cX9_ticksToLoss 4 = .ok (.invokestatic 73, 3) := by decide +kernel
theorem dX9_ticksToLoss_7 : decode cX9_ticksToLoss 7 = .ok (.ifCond .ne 6, 3) := by decide +kernel
theorem dX9_ticksToLoss_10 : decode cX9_ticksToLoss 10 = .ok (.ldc 77, 2) := by decide +kernel
theorem dX9_ticksToLoss_12 : decode cX9_ticksToLoss 12 = .ok (.ireturn, 1) := by decide +kernel
theorem dX9_ticksToLoss_13 : decode cX9_ticksToLoss 13 = .ok (.aload_n 0, 1) := by decide +kernel
theorem dX9_ticksToLoss_14 : decode cX9_ticksToLoss 14 = .ok (.getfield 20, 3) := by decide +kernel
theorem dX9_ticksToLoss_17 : decode cX9_ticksToLoss 17 = .ok (.getfield 156, 3) := by decide +kernel
theorem dX9_ticksToLoss_20 : decode cX9_ticksToLoss 20 = .ok (.iconst 1, 1) := by decide +kernel
theorem dX9_ticksToLoss_21 : decode cX9_ticksToLoss 21 = .ok (.if_icmp .eq 6, 3) := by decide +kernel
theorem dX9_ticksToLoss_24 : decode cX9_ticksToLoss 24 = .ok (.ldc 129, 2) := by decide +kernel
theorem dX9_ticksToLoss_26 : decode cX9_ticksToLoss 26 = .ok (.ireturn, 1) := by decide +kernel
theorem dX9_ticksToLoss_27 : decode cX9_ticksToLoss 27 = .ok (.aload_n 0, 1) := by decide +kernel
theorem dX9_ticksToLoss_28 : decode cX9_ticksToLoss 28 = .ok (.getfield 64, 3) := by decide +kernel
theorem dX9_ticksToLoss_31 : decode cX9_ticksToLoss 31 = .ok (.aload_n 0, 1) := by decide +kernel
theorem dX9_ticksToLoss_32 : decode cX9_ticksToLoss 32 = .ok (.getfield 20, 3) := by decide +kernel
theorem dX9_ticksToLoss_35 : decode cX9_ticksToLoss 35 = .ok (.invokevirtual 220, 3) := by decide +kernel
theorem dX9_ticksToLoss_38 : decode cX9_ticksToLoss 38 = .ok (.iconst 0, 1) := by decide +kernel
theorem dX9_ticksToLoss_39 : decode cX9_ticksToLoss 39 = .ok (.istore_n 2, 1) := by decide +kernel
theorem dX9_ticksToLoss_40 : decode cX9_ticksToLoss 40 = .ok (.iload_n 2, 1) := by decide +kernel
theorem dX9_ticksToLoss_41 : decode cX9_ticksToLoss 41 = .ok (.sipush 200, 3) := by decide +kernel
theorem dX9_ticksToLoss_44 : decode cX9_ticksToLoss 44 = .ok (.if_icmp .gt 40, 3) := by decide +kernel
theorem dX9_ticksToLoss_47 : decode cX9_ticksToLoss 47 = .ok (.aload_n 0, 1) := by decide +kernel
theorem dX9_ticksToLoss_48 : decode cX9_ticksToLoss 48 = .ok (.getfield 64, 3) := by decide +kernel
theorem dX9_ticksToLoss_51 : decode cX9_ticksToLoss 51 = .ok (.getfield 165, 3) := by decide +kernel
theorem dX9_ticksToLoss_54 : decode cX9_ticksToLoss 54 = .ok (.getfield 181, 3) := by decide +kernel
theorem dX9_ticksToLoss_57 : decode cX9_ticksToLoss 57 = .ok (.iload_n 1, 1) := by decide +kernel
theorem dX9_ticksToLoss_58 : decode cX9_ticksToLoss 58 = .ok (.if_icmp .lt 5, 3) := by decide +kernel
theorem dX9_ticksToLoss_61 : decode cX9_ticksToLoss 61 = .ok (.iload_n 2, 1) := by decide +kernel
theorem dX9_ticksToLoss_62 : decode cX9_ticksToLoss 62 = .ok (.ireturn, 1) := by decide +kernel
theorem dX9_ticksToLoss_63 : decode cX9_ticksToLoss 63 = .ok (.aload_n 0, 1) := by decide +kernel
theorem dX9_ticksToLoss_64 : decode cX9_ticksToLoss 64 = .ok (.getfield 64, 3) := by decide +kernel
theorem dX9_ticksToLoss_67 : decode cX9_ticksToLoss 67 = .ok (.aload_n 0, 1) := by decide +kernel
theorem dX9_ticksToLoss_68 : decode cX9_ticksToLoss 68 = .ok (.getfield 32, 3) := by decide +kernel
theorem dX9_ticksToLoss_71 : decode cX9_ticksToLoss 71 = .ok (.aload_n 0, 1) := by decide +kernel
theorem dX9_ticksToLoss_72 : decode cX9_ticksToLoss 72 = .ok (.getfield 36, 3) := by decide +kernel
theorem dX9_ticksToLoss_75 : decode cX9_ticksToLoss 75 = .ok (.invokevirtual 192, 3) := by decide +kernel
theorem dX9_ticksToLoss_78 : decode cX9_ticksToLoss 78 = .ok (.iinc 2 1, 3) := by decide +kernel
theorem dX9_ticksToLoss_81 : decode cX9_ticksToLoss 81 = .ok (.goto (-41), 3) := by decide +kernel
theorem dX9_ticksToLoss_84 : decode cX9_ticksToLoss 84 = .ok (.ldc 210, 2) := by decide +kernel
theorem dX9_ticksToLoss_86 : decode cX9_ticksToLoss 86 = .ok (.ireturn, 1) := by decide +kernel
theorem dX9_bestBias_0 : decode cX9_bestBias 0 = .ok (.iload_n 1, 1) := by decide +kernel
theorem dX9_bestBias_1 : decode cX9_bestBias 1 = .ok (.iconst 1, 1) := by decide +kernel
theorem dX9_bestBias_2 : decode cX9_bestBias 2 = .ok (.bipush 100, 2) := by decide +kernel
theorem dX9_bestBias_4 : decode cX9_bestBias 4 = .ok (.invokestatic 73, 3) := by decide +kernel
theorem dX9_bestBias_7 : decode cX9_bestBias 7 = .ok (.ifCond .ne 6, 3) := by decide +kernel
theorem dX9_bestBias_10 : decode cX9_bestBias 10 = .ok (.ldc 77, 2) := by decide +kernel
theorem dX9_bestBias_12 : decode cX9_bestBias 12 = .ok (.ireturn, 1) := by decide +kernel
theorem dX9_bestBias_13 : decode cX9_bestBias 13 = .ok (.aload_n 0, 1) := by decide +kernel
theorem dX9_bestBias_14 : decode cX9_bestBias 14 = .ok (.getfield 20, 3) := by decide +kernel
theorem dX9_bestBias_17 : decode cX9_bestBias 17 = .ok (.getfield 156, 3) := by decide +kernel
theorem dX9_bestBias_20 : decode cX9_bestBias 20 = .ok (.iconst 1, 1) := by decide +kernel
theorem dX9_bestBias_21 : decode cX9_bestBias 21 = .ok (.if_icmp .ne 13, 3) := by decide +kernel
theorem dX9_bestBias_24 : decode cX9_bestBias 24 = .ok (.aload_n 0, 1) := by decide +kernel
theorem dX9_bestBias_25 : decode cX9_bestBias 25 = .ok (.getfield 32, 3) := by decide +kernel
theorem dX9_bestBias_28 : decode cX9_bestBias 28 = .ok (.getfield 123, 3) := by decide +kernel
theorem dX9_bestBias_31 : decode cX9_bestBias 31 = .ok (.ifCond .ne 6, 3) := by decide +kernel
theorem dX9_bestBias_34 : decode cX9_bestBias 34 = .ok (.ldc 129, 2) := by decide +kernel
theorem dX9_bestBias_36 : decode cX9_bestBias 36 = .ok (.ireturn, 1) := by decide +kernel
theorem dX9_bestBias_37 : decode cX9_bestBias 37 = .ok (.iconst 0, 1) := by decide +kernel
theorem dX9_bestBias_38 : decode cX9_bestBias 38 = .ok (.istore_n 2, 1) := by decide +kernel
theorem dX9_bestBias_39 : decode cX9_bestBias 39 = .ok (.aload_n 0, 1) := by decide +kernel
theorem dX9_bestBias_40 : decode cX9_bestBias 40 = .ok (.iconst 0, 1) := by decide +kernel
theorem dX9_bestBias_41 : decode cX9_bestBias 41 = .ok (.iload_n 1, 1) := by decide +kernel
theorem dX9_bestBias_42 : decode cX9_bestBias 42 = .ok (.invokevirtual 224, 3) := by decide +kernel
theorem dX9_bestBias_45 : decode cX9_bestBias 45 = .ok (.istore_n 3, 1) := by decide +kernel
theorem dX9_bestBias_46 : decode cX9_bestBias 46 = .ok (.iconst 1, 1) := by decide +kernel
theorem dX9_bestBias_47 : decode cX9_bestBias 47 = .ok (.istore 4, 2) := by decide +kernel
theorem dX9_bestBias_49 : decode cX9_bestBias 49 = .ok (.iload 4, 2) := by decide +kernel
theorem dX9_bestBias_51 : decode cX9_bestBias 51 = .ok (.bipush 100, 2) := by decide +kernel
theorem dX9_bestBias_53 : decode cX9_bestBias 53 = .ok (.if_icmp .gt 30, 3) := by decide +kernel
theorem dX9_bestBias_56 : decode cX9_bestBias 56 = .ok (.aload_n 0, 1) := by decide +kernel
theorem dX9_bestBias_57 : decode cX9_bestBias 57 = .ok (.iload 4, 2) := by decide +kernel
theorem dX9_bestBias_59 : decode cX9_bestBias 59 = .ok (.iload_n 1, 1) := by decide +kernel
theorem dX9_bestBias_60 : decode cX9_bestBias 60 = .ok (.invokevirtual 224, 3) := by decide +kernel
theorem dX9_bestBias_63 : decode cX9_bestBias 63 = .ok (.istore 5, 2) := by decide +kernel
theorem dX9_bestBias_65 : decode cX9_bestBias 65 = .ok (.iload 5, 2) := by decide +kernel
theorem dX9_bestBias_67 : decode cX9_bestBias 67 = .ok (.iload_n 3, 1) := by decide +kernel
theorem dX9_bestBias_68 : decode cX9_bestBias 68 = .ok (.if_icmp .ge 9, 3) := by decide +kernel
theorem dX9_bestBias_71 : decode cX9_bestBias 71 = .ok (.iload 5, 2) := by decide +kernel
theorem dX9_bestBias_73 : decode cX9_bestBias 73 = .ok (.istore_n 3, 1) := by decide +kernel
theorem dX9_bestBias_74 : decode cX9_bestBias 74 = .ok (.iload 4, 2) := by decide +kernel
theorem dX9_bestBias_76 : decode cX9_bestBias 76 = .ok (.istore_n 2, 1) := by decide +kernel
theorem dX9_bestBias_77 : decode cX9_bestBias 77 = .ok (.iinc 4 1, 3) := by decide +kernel
theorem dX9_bestBias_80 : decode cX9_bestBias 80 = .ok (.goto (-31), 3) := by decide +kernel
theorem dX9_bestBias_83 : decode cX9_bestBias 83 = .ok (.iload_n 2, 1) := by decide +kernel
theorem dX9_bestBias_84 : decode cX9_bestBias 84 = .ok (.ireturn, 1) := by decide +kernel
theorem dX9_deviationWith_0 : decode cX9_deviationWith 0 = .ok (.aload_n 0, 1) := by decide +kernel
theorem dX9_deviationWith_1 : decode cX9_deviationWith 1 = .ok (.getfield 64, 3) := by decide +kernel
theorem dX9_deviationWith_4 : decode cX9_deviationWith 4 = .ok (.aload_n 0, 1) := by decide +kernel
theorem dX9_deviationWith_5 : decode cX9_deviationWith 5 = .ok (.getfield 20, 3) := by decide +kernel
theorem dX9_deviationWith_8 : decode cX9_deviationWith 8 = .ok (.invokevirtual 220, 3) := by decide +kernel
theorem dX9_deviationWith_11 : decode cX9_deviationWith 11 = .ok (.aload_n 0, 1) := by decide +kernel
theorem dX9_deviationWith_12 : decode cX9_deviationWith 12 = .ok (.getfield 64, 3) := by decide +kernel
theorem dX9_deviationWith_15 : decode cX9_deviationWith 15 = .ok (.getfield 21, 3) := by decide +kernel
theorem dX9_deviationWith_18 : decode cX9_deviationWith 18 = .ok (.iconst 1, 1) := by decide +kernel
theorem dX9_deviationWith_19 : decode cX9_deviationWith 19 = .ok (.putfield 91, 3) := by decide +kernel
theorem dX9_deviationWith_22 : decode cX9_deviationWith 22 = .ok (.aload_n 0, 1) := by decide +kernel
theorem dX9_deviationWith_23 : decode cX9_deviationWith 23 = .ok (.getfield 64, 3) := by decide +kernel
theorem dX9_deviationWith_26 : decode cX9_deviationWith 26 = .ok (.getfield 21, 3) := by decide +kernel
theorem dX9_deviationWith_29 : decode cX9_deviationWith 29 = .ok (.iload_n 1, 1) := by decide +kernel
theorem dX9_deviationWith_30 : decode cX9_deviationWith 30 = .ok (.putfield 100, 3) := by decide +kernel
theorem dX9_deviationWith_33 : decode cX9_deviationWith 33 = .ok (.iconst 0, 1) := by decide +kernel
theorem dX9_deviationWith_34 : decode cX9_deviationWith 34 = .ok (.istore_n 3, 1) := by decide +kernel
theorem dX9_deviationWith_35 : decode cX9_deviationWith 35 = .ok (.iconst 0, 1) := by decide +kernel
theorem dX9_deviationWith_36 : decode cX9_deviationWith 36 = .ok (.istore 4, 2) := by decide +kernel
theorem dX9_deviationWith_38 : decode cX9_deviationWith 38 = .ok (.iload 4, 2) := by decide +kernel
theorem dX9_deviationWith_40 : decode cX9_deviationWith 40 = .ok (.iload_n 2, 1) := by decide +kernel
theorem dX9_deviationWith_41 : decode cX9_deviationWith 41 = .ok (.if_icmp .ge 55, 3) := by decide +kernel
theorem dX9_deviationWith_44 : decode cX9_deviationWith 44 = .ok (.aload_n 0, 1) := by decide +kernel
theorem dX9_deviationWith_45 : decode cX9_deviationWith 45 = .ok (.getfield 64, 3) := by decide +kernel
theorem dX9_deviationWith_48 : decode cX9_deviationWith 48 = .ok (.aload_n 0, 1) := by decide +kernel
theorem dX9_deviationWith_49 : decode cX9_deviationWith 49 = .ok (.getfield 32, 3) := by decide +kernel
theorem dX9_deviationWith_52 : decode cX9_deviationWith 52 = .ok (.aload_n 0, 1) := by decide +kernel
theorem dX9_deviationWith_53 : decode cX9_deviationWith 53 = .ok (.getfield 36, 3) := by decide +kernel
theorem dX9_deviationWith_56 : decode cX9_deviationWith 56 = .ok (.invokevirtual 192, 3) := by decide +kernel
theorem dX9_deviationWith_59 : decode cX9_deviationWith 59 = .ok (.iload_n 3, 1) := by decide +kernel
theorem dX9_deviationWith_60 : decode cX9_deviationWith 60 = .ok (.aload_n 0, 1) := by decide +kernel
theorem dX9_deviationWith_61 : decode cX9_deviationWith 61 = .ok (.getfield 32, 3) := by decide +kernel
theorem dX9_deviationWith_64 : decode cX9_deviationWith 64 = .ok (.aload_n 0, 1) := by decide +kernel
theorem dX9_deviationWith_65 : decode cX9_deviationWith 65 = .ok (.getfield 64, 3) := by decide +kernel
theorem dX9_deviationWith_68 : decode cX9_deviationWith 68 = .ok (.getfield 165, 3) := by decide +kernel
theorem dX9_deviationWith_71 : decode cX9_deviationWith 71 = .ok (.getfield 227, 3) := by decide +kernel
theorem dX9_deviationWith_74 : decode cX9_deviationWith 74 = .ok (.invokevirtual 211, 3) := by decide +kernel
theorem dX9_deviationWith_77 : decode cX9_deviationWith 77 = .ok (.aload_n 0, 1) := by decide +kernel
theorem dX9_deviationWith_78 : decode cX9_deviationWith 78 = .ok (.getfield 64, 3) := by decide +kernel
theorem dX9_deviationWith_81 : decode cX9_deviationWith 81 = .ok (.getfield 196, 3) := by decide +kernel
theorem dX9_deviationWith_84 : decode cX9_deviationWith 84 = .ok (.isub, 1) := by decide +kernel
theorem dX9_deviationWith_85 : decode cX9_deviationWith 85 = .ok (.invokestatic 230, 3) := by decide +kernel
theorem dX9_deviationWith_88 : decode cX9_deviationWith 88 = .ok (.iadd, 1) := by decide +kernel
theorem dX9_deviationWith_89 : decode cX9_deviationWith 89 = .ok (.istore_n 3, 1) := by decide +kernel
theorem dX9_deviationWith_90 : decode cX9_deviationWith 90 = .ok (.iinc 4 1, 3) := by decide +kernel
theorem dX9_deviationWith_93 : decode cX9_deviationWith 93 = .ok (.goto (-55), 3) := by decide +kernel
theorem dX9_deviationWith_96 : decode cX9_deviationWith 96 = .ok (.iload_n 3, 1) := by decide +kernel
theorem dX9_deviationWith_97 : decode cX9_deviationWith 97 = .ok (.ireturn, 1) := by decide +kernel
theorem dX9_inRange_0 : decode cX9_inRange 0 = .ok (.iload_n 0, 1) := by decide +kernel
theorem dX9_inRange_1 : decode cX9_inRange 1 = .ok (.iload_n 1, 1) := by decide +kernel
theorem dX9_inRange_2 : decode cX9_inRange 2 = .ok (.if_icmp .lt 12, 3) := by decide +kernel
theorem dX9_inRange_5 : decode cX9_inRange 5 = .ok (.iload_n 0, 1) := by decide +kernel
theorem dX9_inRange_6 : decode cX9_inRange 6 = .ok (.iload_n 2, 1) := by decide +kernel
theorem dX9_inRange_7 : decode cX9_inRange 7 = .ok (.if_icmp .gt 7, 3) := by decide +kernel
theorem dX9_inRange_10 : decode cX9_inRange 10 = .ok (.iconst 1, 1) := by decide +kernel
theorem dX9_inRange_11 : decode cX9_inRange 11 = .ok (.goto 4, 3) := by decide +kernel
theorem dX9_inRange_14 : decode cX9_inRange 14 = .ok (.iconst 0, 1) := by decide +kernel
theorem dX9_inRange_15 : decode cX9_inRange 15 = .ok (.ireturn, 1) := by decide +kernel
theorem dX9_clamp_0 : decode cX9_clamp 0 = .ok (.iload_n 1, 1) := by decide +kernel
theorem dX9_clamp_1 : decode cX9_clamp 1 = .ok (.iload_n 0, 1) := by decide +kernel
theorem dX9_clamp_2 : decode cX9_clamp 2 = .ok (.iload_n 2, 1) := by decide +kernel
theorem dX9_clamp_3 : decode cX9_clamp 3 = .ok (.invokestatic 175, 3) := by decide +kernel
theorem dX9_clamp_6 : decode cX9_clamp 6 = .ok (.invokestatic 233, 3) := by decide +kernel
theorem dX9_clamp_9 : decode cX9_clamp 9 = .ok (.ireturn, 1) := by decide +kernel
theorem dX9_quotient_0 : decode cX9_quotient 0 = .ok (.lload_n 2, 1) := by decide +kernel
theorem dX9_quotient_1 : decode cX9_quotient 1 = .ok (.lconst 0, 1) := by decide +kernel
theorem dX9_quotient_2 : decode cX9_quotient 2 = .ok (.lcmp, 1) := by decide +kernel
theorem dX9_quotient_3 : decode cX9_quotient 3 = .ok (.ifCond .le 11, 3) := by decide +kernel
theorem dX9_quotient_6 : decode cX9_quotient 6 = .ok (.lload_n 0, 1) := by decide +kernel
theorem dX9_quotient_7 : decode cX9_quotient 7 = .ok (.lload_n 2, 1) := by decide +kernel
theorem dX9_quotient_8 : decode cX9_quotient 8 = .ok (.invokestatic 236, 3) := by decide +kernel
theorem dX9_quotient_11 : decode cX9_quotient 11 = .ok (.goto 4, 3) := by decide +kernel
theorem dX9_quotient_14 : decode cX9_quotient 14 = .ok (.lconst 0, 1) := by decide +kernel
theorem dX9_quotient_15 : decode cX9_quotient 15 = .ok (.lreturn, 1) := by decide +kernel
theorem dX9_at_0 : decode cX9_at 0 = .ok (.iload_n 1, 1) := by decide +kernel
theorem dX9_at_1 : decode cX9_at 1 = .ok (.ifCond .lt 15, 3) := by decide +kernel
theorem dX9_at_4 : decode cX9_at 4 = .ok (.iload_n 1, 1) := by decide +kernel
theorem dX9_at_5 : decode cX9_at 5 = .ok (.aload_n 0, 1) := by decide +kernel
theorem dX9_at_6 : decode cX9_at 6 = .ok (.arraylength, 1) := by decide +kernel
theorem dX9_at_7 : decode cX9_at 7 = .ok (.if_icmp .ge 9, 3) := by decide +kernel
theorem dX9_at_10 : decode cX9_at 10 = .ok (.aload_n 0, 1) := by decide +kernel
theorem dX9_at_11 : decode cX9_at 11 = .ok (.iload_n 1, 1) := by decide +kernel
theorem dX9_at_12 : decode cX9_at 12 = .ok (.iaload, 1) := by decide +kernel
theorem dX9_at_13 : decode cX9_at 13 = .ok (.goto 4, 3) := by decide +kernel
theorem dX9_at_16 : decode cX9_at 16 = .ok (.iconst 0, 1) := by decide +kernel
theorem dX9_at_17 : decode cX9_at 17 = .ok (.ireturn, 1) := by decide +kernel
theorem dX9_put_0 : decode cX9_put 0 = .ok (.iload_n 1, 1) := by decide +kernel
theorem dX9_put_1 : decode cX9_put 1 = .ok (.ifCond .lt 13, 3) := by decide +kernel
theorem dX9_put_4 : decode cX9_put 4 = .ok (.iload_n 1, 1) := by decide +kernel
theorem dX9_put_5 : decode cX9_put 5 = .ok (.aload_n 0, 1) := by decide +kernel
theorem dX9_put_6 : decode cX9_put 6 = .ok (.arraylength, 1) := by decide +kernel
theorem dX9_put_7 : decode cX9_put 7 = .ok (.if_icmp .ge 7, 3) := by decide +kernel
theorem dX9_put_10 : decode cX9_put 10 = .ok (.aload_n 0, 1) := by decide +kernel
theorem dX9_put_11 : decode cX9_put 11 = .ok (.iload_n 1, 1) := by decide +kernel
theorem dX9_put_12 : decode cX9_put 12 = .ok (.iload_n 2, 1) := by decide +kernel
theorem dX9_put_13 : decode cX9_put 13 = .ok (.iastore, 1) := by decide +kernel
theorem dX9_put_14 : decode cX9_put 14 = .ok (.return_, 1) := by decide +kernel
theorem dX9_copyRow_0 : decode cX9_copyRow 0 = .ok (.aload_n 0, 1) := by decide +kernel
theorem dX9_copyRow_1 : decode cX9_copyRow 1 = .ok (.iconst 0, 1) := by decide +kernel
theorem dX9_copyRow_2 : decode cX9_copyRow 2 = .ok (.aload_n 1, 1) := by decide +kernel
theorem dX9_copyRow_3 : decode cX9_copyRow 3 = .ok (.iconst 0, 1) := by decide +kernel
theorem dX9_copyRow_4 : decode cX9_copyRow 4 = .ok (.aload_n 0, 1) := by decide +kernel
theorem dX9_copyRow_5 : decode cX9_copyRow 5 = .ok (.arraylength, 1) := by decide +kernel
theorem dX9_copyRow_6 : decode cX9_copyRow 6 = .ok (.aload_n 1, 1) := by decide +kernel
theorem dX9_copyRow_7 : decode cX9_copyRow 7 = .ok (.arraylength, 1) := by decide +kernel
theorem dX9_copyRow_8 : decode cX9_copyRow 8 = .ok (.invokestatic 175, 3) := by decide +kernel
theorem dX9_copyRow_11 : decode cX9_copyRow 11 = .ok (.invokestatic 240, 3) := by decide +kernel
theorem dX9_copyRow_14 : decode cX9_copyRow 14 = .ok (.return_, 1) := by decide +kernel
theorem dX10_init_0 : decode cX10_init 0 = .ok (.aload_n 0, 1) := by decide +kernel
theorem dX10_init_1 : decode cX10_init 1 = .ok (.invokespecial 1, 3) := by decide +kernel
theorem dX10_init_4 : decode cX10_init 4 = .ok (.aload_n 0, 1) := by decide +kernel
theorem dX10_init_5 : decode cX10_init 5 = .ok (.bipush 112, 2) := by decide +kernel
theorem dX10_init_7 : decode cX10_init 7 = .ok (.newarray .int, 2) := by decide +kernel
theorem dX10_init_9 : decode cX10_init 9 = .ok (.putfield 7, 3) := by decide +kernel
theorem dX10_init_12 : decode cX10_init 12 = .ok (.aload_n 0, 1) := by decide +kernel
theorem dX10_init_13 : decode cX10_init 13 = .ok (.bipush 112, 2) := by decide +kernel
theorem dX10_init_15 : decode cX10_init 15 = .ok (.newarray .int, 2) := by decide +kernel
theorem dX10_init_17 : decode cX10_init 17 = .ok (.putfield 13, 3) := by decide +kernel
theorem dX10_init_20 : decode cX10_init 20 = .ok (.aload_n 0, 1) := by decide +kernel
theorem dX10_init_21 : decode cX10_init 21 = .ok (.sipush 560, 3) := by decide +kernel
theorem dX10_init_24 : decode cX10_init 24 = .ok (.newarray .int, 2) := by decide +kernel
theorem dX10_init_26 : decode cX10_init 26 = .ok (.putfield 16, 3) := by decide +kernel
theorem dX10_init_29 : decode cX10_init 29 = .ok (.aload_n 0, 1) := by decide +kernel
theorem dX10_init_30 : decode cX10_init 30 = .ok (.bipush 100, 2) := by decide +kernel
theorem dX10_init_32 : decode cX10_init 32 = .ok (.newarray .int, 2) := by decide +kernel
theorem dX10_init_34 : decode cX10_init 34 = .ok (.putfield 19, 3) := by decide +kernel
theorem dX10_init_37 : decode cX10_init 37 = .ok (.aload_n 0, 1) := by decide +kernel
theorem dX10_init_38 : decode cX10_init 38 = .ok (.bipush 16, 2) := by decide +kernel
theorem dX10_init_40 : decode cX10_init 40 = .ok (.newarray .int, 2) := by decide +kernel
theorem dX10_init_42 : decode cX10_init 42 = .ok (.putfield 22, 3) := by decide +kernel
theorem dX10_init_45 : decode cX10_init 45 = .ok (.aload_n 0, 1) := by decide +kernel
theorem dX10_init_46 : decode cX10_init 46 = .ok (.iconst 0, 1) := by decide +kernel
theorem dX10_init_47 : decode cX10_init 47 = .ok (.putfield 25, 3) := by decide +kernel
theorem dX10_init_50 : decode cX10_init 50 = .ok (.aload_n 0, 1) := by decide +kernel
theorem dX10_init_51 : decode cX10_init 51 = .ok (.getfield 7, 3) := by decide +kernel
theorem dX10_init_54 : decode cX10_init 54 = .ok (.iconst 2, 1) := by decide +kernel
theorem dX10_init_55 : decode cX10_init 55 = .ok (.sipush 250, 3) := by decide +kernel
theorem dX10_init_58 : decode cX10_init 58 = .ok (.iastore, 1) := by decide +kernel
theorem dX10_init_59 : decode cX10_init 59 = .ok (.aload_n 0, 1) := by decide +kernel
theorem dX10_init_60 : decode cX10_init 60 = .ok (.getfield 7, 3) := by decide +kernel
theorem dX10_init_63 : decode cX10_init 63 = .ok (.iconst 3, 1) := by decide +kernel
theorem dX10_init_64 : decode cX10_init 64 = .ok (.sipush 250, 3) := by decide +kernel
theorem dX10_init_67 : decode cX10_init 67 = .ok (.iastore, 1) := by decide +kernel
theorem dX10_init_68 : decode cX10_init 68 = .ok (.aload_n 0, 1) := by decide +kernel
theorem dX10_init_69 : decode cX10_init 69 = .ok (.getfield 7, 3) := by decide +kernel
theorem dX10_init_72 : decode cX10_init 72 = .ok (.iconst 4, 1) := by decide +kernel
theorem dX10_init_73 : decode cX10_init 73 = .ok (.sipush 250, 3) := by decide +kernel
theorem dX10_init_76 : decode cX10_init 76 = .ok (.iastore, 1) := by decide +kernel
theorem dX10_init_77 : decode cX10_init 77 = .ok (.aload_n 0, 1) := by decide +kernel
theorem dX10_init_78 : decode cX10_init 78 = .ok (.getfield 7, 3) := by decide +kernel
theorem dX10_init_81 : decode cX10_init 81 = .ok (.iconst 5, 1) := by decide +kernel
theorem dX10_init_82 : decode cX10_init 82 = .ok (.iconst 4, 1) := by decide +kernel
theorem dX10_init_83 : decode cX10_init 83 = .ok (.iastore, 1) := by decide +kernel
theorem dX10_init_84 : decode cX10_init 84 = .ok (.aload_n 0, 1) := by decide +kernel
theorem dX10_init_85 : decode cX10_init 85 = .ok (.getfield 7, 3) := by decide +kernel
theorem dX10_init_88 : decode cX10_init 88 = .ok (.bipush 8, 2) := by decide +kernel
theorem dX10_init_90 : decode cX10_init 90 = .ok (.bipush 10, 2) := by decide +kernel
theorem dX10_init_92 : decode cX10_init 92 = .ok (.iastore, 1) := by decide +kernel
theorem dX10_init_93 : decode cX10_init 93 = .ok (.aload_n 0, 1) := by decide +kernel
theorem dX10_init_94 : decode cX10_init 94 = .ok (.getfield 7, 3) := by decide +kernel
theorem dX10_init_97 : decode cX10_init 97 = .ok (.bipush 10, 2) := by decide +kernel
theorem dX10_init_99 : decode cX10_init 99 = .ok (.bipush 50, 2) := by decide +kernel
theorem dX10_init_101 : decode cX10_init 101 = .ok (.iastore, 1) := by decide +kernel
theorem dX10_init_102 : decode cX10_init 102 = .ok (.aload_n 0, 1) := by decide +kernel
theorem dX10_init_103 : decode cX10_init 103 = .ok (.getfield 7, 3) := by decide +kernel
theorem dX10_init_106 : decode cX10_init 106 = .ok (.bipush 11, 2) := by decide +kernel
theorem dX10_init_108 : decode cX10_init 108 = .ok (.iconst 5, 1) := by decide +kernel
theorem dX10_init_109 : decode cX10_init 109 = .ok (.iastore, 1) := by decide +kernel
theorem dX10_init_110 : decode cX10_init 110 = .ok (.aload_n 0, 1) := by decide +kernel
theorem dX10_init_111 : decode cX10_init 111 = .ok (.getfield 7, 3) := by decide +kernel
theorem dX10_init_114 : decode cX10_init 114 = .ok (.bipush 12, 2) := by decide +kernel
theorem dX10_init_116 : decode cX10_init 116 = .ok (.bipush 50, 2) := by decide +kernel
theorem dX10_init_118 : decode cX10_init 118 = .ok (.iastore, 1) := by decide +kernel
theorem dX10_init_119 : decode cX10_init 119 = .ok (.aload_n 0, 1) := by decide +kernel
theorem dX10_init_120 : decode cX10_init 120 = .ok (.getfield 7, 3) := by decide +kernel
theorem dX10_init_123 : decode cX10_init 123 = .ok (.bipush 14, 2) := by decide +kernel
theorem dX10_init_125 : decode cX10_init 125 = .ok (.sipush 1960, 3) := by decide +kernel
theorem dX10_init_128 : decode cX10_init 128 = .ok (.iastore, 1) := by decide +kernel
theorem dX10_init_129 : decode cX10_init 129 = .ok (.aload_n 0, 1) := by decide +kernel
theorem dX10_init_130 : decode cX10_init 130 = .ok (.getfield 7, 3) := by decide +kernel
theorem dX10_init_133 : decode cX10_init 133 = .ok (.bipush 15, 2) := by decide +kernel
theorem dX10_init_135 : decode cX10_init 135 = .ok (.bipush 30, 2) := by decide +kernel
theorem dX10_init_137 : decode cX10_init 137 = .ok (.iastore, 1) := by decide +kernel
theorem dX10_init_138 : decode cX10_init 138 = .ok (.aload_n 0, 1) := by decide +kernel
theorem dX10_init_139 : decode cX10_init 139 = .ok (.getfield 7, 3) := by decide +kernel
theorem dX10_init_142 : decode cX10_init 142 = .ok (.bipush 49, 2) := by decide +kernel
theorem dX10_init_144 : decode cX10_init 144 = .ok (.iconst 4, 1) := by decide +kernel
theorem dX10_init_145 : decode cX10_init 145 = .ok (.iastore, 1) := by decide +kernel
theorem dX10_init_146 : decode cX10_init 146 = .ok (.aload_n 0, 1) := by decide +kernel
theorem dX10_init_147 : decode cX10_init 147 = .ok (.iconst 0, 1) := by decide +kernel
theorem dX10_init_148 : decode cX10_init 148 = .ok (.sipush 1000, 3) := by decide +kernel
theorem dX10_init_151 : decode cX10_init 151 = .ok (.iconst 2, 1) := by decide +kernel
theorem dX10_init_152 : decode cX10_init 152 = .ok (.invokevirtual 29, 3) := by decide +kernel
theorem dX10_init_155 : decode cX10_init 155 = .ok (.aload_n 0, 1) := by decide +kernel
theorem dX10_init_156 : decode cX10_init 156 = .ok (.iconst 1, 1) := by decide +kernel
theorem dX10_init_157 : decode cX10_init 157 = .ok (.sipush 1500, 3) := by decide +kernel
theorem dX10_init_160 : decode cX10_init 160 = .ok (.bipush 6, 2) := by decide +kernel
theorem dX10_init_162 : decode cX10_init 162 = .ok (.invokevirtual 29, 3) := by decide +kernel
theorem dX10_init_165 : decode cX10_init 165 = .ok (.aload_n 0, 1) := by decide +kernel
theorem dX10_init_166 : decode cX10_init 166 = .ok (.iconst 2, 1) := by decide +kernel
theorem dX10_init_167 : decode cX10_init 167 = .ok (.sipush 1900, 3) := by decide +kernel
theorem dX10_init_170 : decode cX10_init 170 = .ok (.bipush 14, 2) := by decide +kernel
theorem dX10_init_172 : decode cX10_init 172 = .ok (.invokevirtual 29, 3) := by decide +kernel
theorem dX10_init_175 : decode cX10_init 175 = .ok (.aload_n 0, 1) := by decide +kernel
theorem dX10_init_176 : decode cX10_init 176 = .ok (.iconst 3, 1) := by decide +kernel
theorem dX10_init_177 : decode cX10_init 177 = .ok (.sipush 2100, 3) := by decide +kernel
theorem dX10_init_180 : decode cX10_init 180 = .ok (.bipush 25, 2) := by decide +kernel
theorem dX10_init_182 : decode cX10_init 182 = .ok (.invokevirtual 29, 3) := by decide +kernel
theorem dX10_init_185 : decode cX10_init 185 = .ok (.return_, 1) := by decide +kernel
theorem dX10_in_0 : decode cX10_in 0 = .ok (.iload_n 0, 1) := by decide +kernel
theorem dX10_in_1 : decode cX10_in 1 = .ok (.iload_n 1, 1) := by decide +kernel
theorem dX10_in_2 : decode cX10_in 2 = .ok (.if_icmp .lt 12, 3) := by decide +kernel
theorem dX10_in_5 : decode cX10_in 5 = .ok (.iload_n 0, 1) := by decide +kernel
theorem dX10_in_6 : decode cX10_in 6 = .ok (.iload_n 2, 1) := by decide +kernel
theorem dX10_in_7 : decode cX10_in 7 = .ok (.if_icmp .gt 7, 3) := by decide +kernel
theorem dX10_in_10 : decode cX10_in 10 = .ok (.iconst 1, 1) := by decide +kernel
theorem dX10_in_11 : decode cX10_in 11 = .ok (.goto 4, 3) := by decide +kernel
theorem dX10_in_14 : decode cX10_in 14 = .ok (.iconst 0, 1) := by decide +kernel
theorem dX10_in_15 : decode cX10_in 15 = .ok (.ireturn, 1) := by decide +kernel
theorem dX10_down_0 : decode cX10_down 0 = .ok (.iload_n 0, 1) := by decide +kernel
theorem dX10_down_1 : decode cX10_down 1 = .ok (.iload_n 1, 1) := by decide +kernel
theorem dX10_down_2 : decode cX10_down 2 = .ok (.idiv, 1) := by decide +kernel
theorem dX10_down_3 : decode cX10_down 3 = .ok (.istore_n 2, 1) := by decide +kernel
theorem dX10_down_4 : decode cX10_down 4 = .ok (.iload_n 0, 1) := by decide +kernel
theorem dX10_down_5 : decode cX10_down 5 = .ok (.iload_n 1, 1) := by decide +kernel
theorem dX10_down_6 : decode cX10_down 6 = .ok (.irem, 1) := by decide +kernel
theorem dX10_down_7 : decode cX10_down 7 = .ok (.ifCond .ge 9, 3) := by decide +kernel
theorem dX10_down_10 : decode cX10_down 10 = .ok (.iload_n 2, 1) := by decide +kernel
theorem dX10_down_11 : decode cX10_down 11 = .ok (.iconst 1, 1) := by decide +kernel
theorem dX10_down_12 : decode cX10_down 12 = .ok (.isub, 1) := by decide +kernel
theorem dX10_down_13 : decode cX10_down 13 = .ok (.goto 4, 3) := by decide +kernel
theorem dX10_down_16 : decode cX10_down 16 = .ok (.iload_n 2, 1) := by decide +kernel
theorem dX10_down_17 : decode cX10_down 17 = .ok (.ireturn, 1) := by decide +kernel
theorem dX10_clamp_0 : decode cX10_clamp 0 = .ok (.iload_n 0, 1) := by decide +kernel
theorem dX10_clamp_1 : decode cX10_clamp 1 = .ok (.iload_n 1, 1) := by decide +kernel
theorem dX10_clamp_2 : decode cX10_clamp 2 = .ok (.if_icmp .ge 7, 3) := by decide +kernel
theorem dX10_clamp_5 : decode cX10_clamp 5 = .ok (.iload_n 1, 1) := by decide +kernel
theorem dX10_clamp_6 : decode cX10_clamp 6 = .ok (.goto 13, 3) := by decide +kernel
theorem dX10_clamp_9 : decode cX10_clamp 9 = .ok (.iload_n 0, 1) := by decide +kernel
theorem dX10_clamp_10 : decode cX10_clamp 10 = .ok (.iload_n 2, 1) := by decide +kernel
theorem dX10_clamp_11 : decode cX10_clamp 11 = .ok (.if_icmp .le 7, 3) := by decide +kernel
theorem dX10_clamp_14 : decode cX10_clamp 14 = .ok (.iload_n 2, 1) := by decide +kernel
theorem dX10_clamp_15 : decode cX10_clamp 15 = .ok (.goto 4, 3) := by decide +kernel
theorem dX10_clamp_18 : decode cX10_clamp 18 = .ok (.iload_n 0, 1) := by decide +kernel
theorem dX10_clamp_19 : decode cX10_clamp 19 = .ok (.ireturn, 1) := by decide +kernel
theorem dX10_row_0 : decode cX10_row 0 = .ok (.aload_n 0, 1) := by decide +kernel
theorem dX10_row_1 : decode cX10_row 1 = .ok (.getfield 7, 3) := by decide +kernel
theorem dX10_row_4 : decode cX10_row 4 = .ok (.bipush 50, 2) := by decide +kernel
theorem dX10_row_6 : decode cX10_row 6 = .ok (.iconst 2, 1) := by decide +kernel
theorem dX10_row_7 : decode cX10_row 7 = .ok (.iload_n 1, 1) := by decide +kernel
theorem dX10_row_8 : decode cX10_row 8 = .ok (.imul, 1) := by decide +kernel
theorem dX10_row_9 : decode cX10_row 9 = .ok (.iadd, 1) := by decide +kernel
theorem dX10_row_10 : decode cX10_row 10 = .ok (.iload_n 2, 1) := by decide +kernel
theorem dX10_row_11 : decode cX10_row 11 = .ok (.iastore, 1) := by decide +kernel
theorem dX10_row_12 : decode cX10_row 12 = .ok (.aload_n 0, 1) := by decide +kernel
theorem dX10_row_13 : decode cX10_row 13 = .ok (.getfield 7, 3) := by decide +kernel
theorem dX10_row_16 : decode cX10_row 16 = .ok (.bipush 50, 2) := by decide +kernel
theorem dX10_row_18 : decode cX10_row 18 = .ok (.iconst 2, 1) := by decide +kernel
theorem dX10_row_19 : decode cX10_row 19 = .ok (.iload_n 1, 1) := by decide +kernel
theorem dX10_row_20 : decode cX10_row 20 = .ok (.imul, 1) := by decide +kernel
theorem dX10_row_21 : decode cX10_row 21 = .ok (.iadd, 1) := by decide +kernel
theorem dX10_row_22 : decode cX10_row 22 = .ok (.iconst 1, 1) := by decide +kernel
theorem dX10_row_23 : decode cX10_row 23 = .ok (.iadd, 1) := by decide +kernel
theorem dX10_row_24 : decode cX10_row 24 = .ok (.iload_n 3, 1) := by decide +kernel
theorem dX10_row_25 : decode cX10_row 25 = .ok (.iastore, 1) := by decide +kernel
theorem dX10_row_26 : decode cX10_row 26 = .ok (.return_, 1) := by decide +kernel
theorem dX10_hold_0 : decode cX10_hold 0 = .ok (.iconst 0, 1) := by decide +kernel
theorem dX10_hold_1 : decode cX10_hold 1 = .ok (.istore_n 1, 1) := by decide +kernel
theorem dX10_hold_2 : decode cX10_hold 2 = .ok (.iload_n 1, 1) := by decide +kernel
theorem dX10_hold_3 : decode cX10_hold 3 = .ok (.bipush 112, 2) := by decide +kernel
theorem dX10_hold_5 : decode cX10_hold 5 = .ok (.if_icmp .ge 21, 3) := by decide +kernel
theorem dX10_hold_8 : decode cX10_hold 8 = .ok (.aload_n 0, 1) := by decide +kernel
theorem dX10_hold_9 : decode cX10_hold 9 = .ok (.getfield 13, 3) := by decide +kernel
theorem dX10_hold_12 : decode cX10_hold 12 = .ok (.iload_n 1, 1) := by decide +kernel
theorem dX10_hold_13 : decode cX10_hold 13 = .ok (.aload_n 0, 1) := by decide +kernel
theorem dX10_hold_14 : decode cX10_hold 14 = .ok (.getfield 7, 3) := by decide +kernel
theorem dX10_hold_17 : decode cX10_hold 17 = .ok (.iload_n 1, 1) := by decide +kernel
theorem dX10_hold_18 : decode cX10_hold 18 = .ok (.iaload, 1) := by decide +kernel
theorem dX10_hold_19 : decode cX10_hold 19 = .ok (.iastore, 1) := by decide +kernel
theorem dX10_hold_20 : decode cX10_hold 20 = .ok (.iinc 1 1, 3) := by decide +kernel
theorem dX10_hold_23 : decode cX10_hold 23 = .ok (.goto (-21), 3) := by decide +kernel
theorem dX10_hold_26 : decode cX10_hold 26 = .ok (.return_, 1) := by decide +kernel
theorem dX10_release_0 : decode cX10_release 0 = .ok (.iconst 0, 1) := by decide +kernel
theorem dX10_release_1 : decode cX10_release 1 = .ok (.istore_n 1, 1) := by decide +kernel
theorem dX10_release_2 : decode cX10_release 2 = .ok (.iload_n 1, 1) := by decide +kernel
theorem dX10_release_3 : decode cX10_release 3 = .ok (.bipush 112, 2) := by decide +kernel
theorem dX10_release_5 : decode cX10_release 5 = .ok (.if_icmp .ge 21, 3) := by decide +kernel
theorem dX10_release_8 : decode cX10_release 8 = .ok (.aload_n 0, 1) := by decide +kernel
theorem dX10_release_9 : decode cX10_release 9 = .ok (.getfield 7, 3) := by decide +kernel
theorem dX10_release_12 : decode cX10_release 12 = .ok (.iload_n 1, 1) := by decide +kernel
theorem dX10_release_13 : decode cX10_release 13 = .ok (.aload_n 0, 1) := by decide +kernel
theorem dX10_release_14 : decode cX10_release 14 = .ok (.getfield 13, 3) := by decide +kernel
theorem dX10_release_17 : decode cX10_release 17 = .ok (.iload_n 1, 1) := by decide +kernel
theorem dX10_release_18 : decode cX10_release 18 = .ok (.iaload, 1) := by decide +kernel
theorem dX10_release_19 : decode cX10_release 19 = .ok (.iastore, 1) := by decide +kernel
theorem dX10_release_20 : decode cX10_release 20 = .ok (.iinc 1 1, 3) := by decide +kernel
theorem dX10_release_23 : decode cX10_release 23 = .ok (.goto (-21), 3) := by decide +kernel
theorem dX10_release_26 : decode cX10_release 26 = .ok (.return_, 1) := by decide +kernel
theorem dX10_act_0 : decode cX10_act 0 = .ok (.aload_n 0, 1) := by decide +kernel
theorem dX10_act_1 : decode cX10_act 1 = .ok (.getfield 33, 3) := by decide +kernel
theorem dX10_act_4 : decode cX10_act 4 = .ok (.iconst 5, 1) := by decide +kernel
theorem dX10_act_5 : decode cX10_act 5 = .ok (.if_icmp .ne 43, 3) := by decide +kernel
theorem dX10_act_8 : decode cX10_act 8 = .ok (.iconst 0, 1) := by decide +kernel
theorem dX10_act_9 : decode cX10_act 9 = .ok (.istore_n 1, 1) := by decide +kernel
theorem dX10_act_10 : decode cX10_act 10 = .ok (.iload_n 1, 1) := by decide +kernel
theorem dX10_act_11 : decode cX10_act 11 = .ok (.sipush 448, 3) := by decide +kernel
theorem dX10_act_14 : decode cX10_act 14 = .ok (.if_icmp .ge 24, 3) := by decide +kernel
theorem dX10_act_17 : decode cX10_act 17 = .ok (.aload_n 0, 1) := by decide +kernel
theorem dX10_act_18 : decode cX10_act 18 = .ok (.getfield 16, 3) := by decide +kernel
theorem dX10_act_21 : decode cX10_act 21 = .ok (.iload_n 1, 1) := by decide +kernel
theorem dX10_act_22 : decode cX10_act 22 = .ok (.aload_n 0, 1) := by decide +kernel
theorem dX10_act_23 : decode cX10_act 23 = .ok (.getfield 16, 3) := by decide +kernel
theorem dX10_act_26 : decode cX10_act 26 = .ok (.iload_n 1, 1) := by decide +kernel
theorem dX10_act_27 : decode cX10_act 27 = .ok (.bipush 112, 2) := by decide +kernel
theorem dX10_act_29 : decode cX10_act 29 = .ok (.iadd, 1) := by decide +kernel
theorem dX10_act_30 : decode cX10_act 30 = .ok (.iaload, 1) := by decide +kernel
theorem dX10_act_31 : decode cX10_act 31 = .ok (.iastore, 1) := by decide +kernel
theorem dX10_act_32 : decode cX10_act 32 = .ok (.iinc 1 1, 3) := by decide +kernel
theorem dX10_act_35 : decode cX10_act 35 = .ok (.goto (-25), 3) := by decide +kernel
theorem dX10_act_38 : decode cX10_act 38 = .ok (.aload_n 0, 1) := by decide +kernel
theorem dX10_act_39 : decode cX10_act 39 = .ok (.dup, 1) := by decide +kernel
theorem dX10_act_40 : decode cX10_act 40 = .ok (.getfield 33, 3) := by decide +kernel
theorem dX10_act_43 : decode cX10_act 43 = .ok (.iconst 1, 1) := by decide +kernel
theorem dX10_act_44 : decode cX10_act 44 = .ok (.isub, 1) := by decide +kernel
theorem dX10_act_45 : decode cX10_act 45 = .ok (.putfield 33, 3) := by decide +kernel
theorem dX10_act_48 : decode cX10_act 48 = .ok (.iconst 0, 1) := by decide +kernel
theorem dX10_act_49 : decode cX10_act 49 = .ok (.istore_n 1, 1) := by decide +kernel
theorem dX10_act_50 : decode cX10_act 50 = .ok (.iload_n 1, 1) := by decide +kernel
theorem dX10_act_51 : decode cX10_act 51 = .ok (.bipush 112, 2) := by decide +kernel
theorem dX10_act_53 : decode cX10_act 53 = .ok (.if_icmp .ge 29, 3) := by decide +kernel
theorem dX10_act_56 : decode cX10_act 56 = .ok (.aload_n 0, 1) := by decide +kernel
theorem dX10_act_57 : decode cX10_act 57 = .ok (.getfield 16, 3) := by decide +kernel
theorem dX10_act_60 : decode cX10_act 60 = .ok (.bipush 112, 2) := by decide +kernel
theorem dX10_act_62 : decode cX10_act 62 = .ok (.aload_n 0, 1) := by decide +kernel
theorem dX10_act_63 : decode cX10_act 63 = .ok (.getfield 33, 3) := by decide +kernel
theorem dX10_act_66 : decode cX10_act 66 = .ok (.imul, 1) := by decide +kernel
theorem dX10_act_67 : decode cX10_act 67 = .ok (.iload_n 1, 1) := by decide +kernel
theorem dX10_act_68 : decode cX10_act 68 = .ok (.iadd, 1) := by decide +kernel
theorem dX10_act_69 : decode cX10_act 69 = .ok (.aload_n 0, 1) := by decide +kernel
theorem dX10_act_70 : decode cX10_act 70 = .ok (.getfield 7, 3) := by decide +kernel
theorem dX10_act_73 : decode cX10_act 73 = .ok (.iload_n 1, 1) := by decide +kernel
theorem dX10_act_74 : decode cX10_act 74 = .ok (.iaload, 1) := by decide +kernel
theorem dX10_act_75 : decode cX10_act 75 = .ok (.iastore, 1) := by decide +kernel
theorem dX10_act_76 : decode cX10_act 76 = .ok (.iinc 1 1, 3) := by decide +kernel
theorem dX10_act_79 : decode cX10_act 79 = .ok (.goto (-29), 3) := by decide +kernel
theorem dX10_act_82 : decode cX10_act 82 = .ok (.aload_n 0, 1) := by decide +kernel
theorem dX10_act_83 : decode cX10_act 83 = .ok (.dup, 1) := by decide +kernel
theorem dX10_act_84 : decode cX10_act 84 = .ok (.getfield 33, 3) := by decide +kernel
theorem dX10_act_87 : decode cX10_act 87 = .ok (.iconst 1, 1) := by decide +kernel
theorem dX10_act_88 : decode cX10_act 88 = .ok (.iadd, 1) := by decide +kernel
theorem dX10_act_89 : decode cX10_act 89 = .ok (.putfield 33, 3) := by decide +kernel
theorem dX10_act_92 : decode cX10_act 92 = .ok (.return_, 1) := by decide +kernel
theorem dX10_isRoasting_0 : decode cX10_isRoasting 0 = .ok (.aload_n 0, 1) := by decide +kernel
theorem dX10_isRoasting_1 : decode cX10_isRoasting 1 = .ok (.getfield 7, 3) := by decide +kernel
theorem dX10_isRoasting_4 : decode cX10_isRoasting 4 = .ok (.iconst 1, 1) := by decide +kernel
theorem dX10_isRoasting_5 : decode cX10_isRoasting 5 = .ok (.iaload, 1) := by decide +kernel
theorem dX10_isRoasting_6 : decode cX10_isRoasting 6 = .ok (.iconst 1, 1) := by decide +kernel
theorem dX10_isRoasting_7 : decode cX10_isRoasting 7 = .ok (.if_icmp .ne 7, 3) := by decide +kernel
theorem dX10_isRoasting_10 : decode cX10_isRoasting 10 = .ok (.iconst 1, 1) := by decide +kernel
theorem dX10_isRoasting_11 : decode cX10_isRoasting 11 = .ok (.goto 4, 3) := by decide +kernel
theorem dX10_isRoasting_14 : decode cX10_isRoasting 14 = .ok (.iconst 0, 1) := by decide +kernel
theorem dX10_isRoasting_15 : decode cX10_isRoasting 15 = .ok (.ireturn, 1) := by decide +kernel
theorem dX10_put_0 : decode cX10_put 0 = .ok (.aload_n 0, 1) := by decide +kernel
theorem dX10_put_1 : decode cX10_put 1 = .ok (.invokevirtual 36, 3) := by decide +kernel
theorem dX10_put_4 : decode cX10_put 4 = .ok (.aload_n 0, 1) := by decide +kernel
theorem dX10_put_5 : decode cX10_put 5 = .ok (.getfield 7, 3) := by decide +kernel
theorem dX10_put_8 : decode cX10_put 8 = .ok (.iload_n 1, 1) := by decide +kernel
theorem dX10_put_9 : decode cX10_put 9 = .ok (.iaload, 1) := by decide +kernel
theorem dX10_put_10 : decode cX10_put 10 = .ok (.istore_n 3, 1) := by decide +kernel
theorem dX10_put_11 : decode cX10_put 11 = .ok (.aload_n 0, 1) := by decide +kernel
theorem dX10_put_12 : decode cX10_put 12 = .ok (.getfield 7, 3) := by decide +kernel
theorem dX10_put_15 : decode cX10_put 15 = .ok (.iload_n 1, 1) := by decide +kernel
theorem dX10_put_16 : decode cX10_put 16 = .ok (.iload_n 2, 1) := by decide +kernel
theorem dX10_put_17 : decode cX10_put 17 = .ok (.iastore, 1) := by decide +kernel
theorem dX10_put_18 : decode cX10_put 18 = .ok (.iload_n 3, 1) := by decide +kernel
theorem dX10_put_19 : decode cX10_put 19 = .ok (.ireturn, 1) := by decide +kernel
theorem dX10_setAmbient_0 : decode cX10_setAmbient 0 = .ok (.aload_n 0, 1) := by decide +kernel
theorem dX10_setAmbient_1 : decode cX10_setAmbient 1 = .ok (.iconst 0, 1) := by decide +kernel
theorem dX10_setAmbient_2 : decode cX10_setAmbient 2 = .ok (.putfield 25, 3) := by decide +kernel
theorem dX10_setAmbient_5 : decode cX10_setAmbient 5 = .ok (.iload_n 1, 1) := by decide +kernel
theorem dX10_setAmbient_6 : decode cX10_setAmbient 6 = .ok (.iconst 0, 1) := by decide +kernel
theorem dX10_setAmbient_7 : decode cX10_setAmbient 7 = .ok (.sipush 400, 3) := by decide +kernel
theorem dX10_setAmbient_10 : decode cX10_setAmbient 10 = .ok (.invokestatic 39, 3) := by decide +kernel
theorem dX10_setAmbient_13 : decode cX10_setAmbient 13 = .ok (.ifCond .eq 12, 3) := by decide +kernel
theorem dX10_setAmbient_16 : decode cX10_setAmbient 16 = .ok (.aload_n 0, 1) := by decide +kernel
theorem dX10_setAmbient_17 : decode cX10_setAmbient 17 = .ok (.iconst 3, 1) := by decide +kernel
theorem dX10_setAmbient_18 : decode cX10_setAmbient 18 = .ok (.iload_n 1, 1) := by decide +kernel
theorem dX10_setAmbient_19 : decode cX10_setAmbient 19 = .ok (.invokevirtual 43, 3) := by decide +kernel
theorem dX10_setAmbient_22 : decode cX10_setAmbient 22 = .ok (.goto 5, 3) := by decide +kernel
theorem dX10_setAmbient_25 : decode cX10_setAmbient 25 = .ok (.ldc 47, 2) := by decide +kernel
theorem dX10_setAmbient_27 : decode cX10_setAmbient 27 = .ok (.ireturn, 1) := by decide +kernel
theorem dX10_setPower_0 : decode cX10_setPower 0 = .ok (.aload_n 0, 1) := by decide +kernel
theorem dX10_setPower_1 : decode cX10_setPower 1 = .ok (.iconst 0, 1) := by decide +kernel
theorem dX10_setPower_2 : decode cX10_setPower 2 = .ok (.putfield 25, 3) := by decide +kernel
theorem dX10_setPower_5 : decode cX10_setPower 5 = .ok (.iload_n 1, 1) := by decide +kernel
theorem dX10_setPower_6 : decode cX10_setPower 6 = .ok (.iconst 0, 1) := by decide +kernel
theorem dX10_setPower_7 : decode cX10_setPower 7 = .ok (.bipush 100, 2) := by decide +kernel
theorem dX10_setPower_9 : decode cX10_setPower 9 = .ok (.invokestatic 39, 3) := by decide +kernel
theorem dX10_setPower_12 : decode cX10_setPower 12 = .ok (.ifCond .eq 13, 3) := by decide +kernel
theorem dX10_setPower_15 : decode cX10_setPower 15 = .ok (.aload_n 0, 1) := by decide +kernel
theorem dX10_setPower_16 : decode cX10_setPower 16 = .ok (.bipush 7, 2) := by decide +kernel
theorem dX10_setPower_18 : decode cX10_setPower 18 = .ok (.iload_n 1, 1) := by decide +kernel
theorem dX10_setPower_19 : decode cX10_setPower 19 = .ok (.invokevirtual 43, 3) := by decide +kernel
theorem dX10_setPower_22 : decode cX10_setPower 22 = .ok (.goto 5, 3) := by decide +kernel
theorem dX10_setPower_25 : decode cX10_setPower 25 = .ok (.ldc 47, 2) := by decide +kernel
theorem dX10_setPower_27 : decode cX10_setPower 27 = .ok (.ireturn, 1) := by decide +kernel
theorem dX10_setController_0 : decode cX10_setController 0 = .ok (.aload_n 0, 1) := by decide +kernel
theorem dX10_setController_1 : decode cX10_setController 1 = .ok (.iconst 0, 1) := by decide +kernel
theorem dX10_setController_2 : decode cX10_setController 2 = .ok (.putfield 25, 3) := by decide +kernel
theorem dX10_setController_5 : decode cX10_setController 5 = .ok (.iload_n 1, 1) := by decide +kernel
theorem dX10_setController_6 : decode cX10_setController 6 = .ok (.iconst 0, 1) := by decide +kernel
theorem dX10_setController_7 : decode cX10_setController 7 = .ok (.iconst 1, 1) := by decide +kernel
theorem dX10_setController_8 : decode cX10_setController 8 = .ok (.invokestatic 39, 3) := by decide +kernel
theorem dX10_setController_11 : decode cX10_setController 11 = .ok (.ifCond .eq 36, 3) := by decide +kernel
theorem dX10_setController_14 : decode cX10_setController 14 = .ok (.iload_n 2, 1) := by decide +kernel
theorem dX10_setController_15 : decode cX10_setController 15 = .ok (.iconst 0, 1) := by decide +kernel
theorem dX10_setController_16 : decode cX10_setController 16 = .ok (.sipush 200, 3) := by decide +kernel
theorem dX10_setController_19 : decode cX10_setController 19 = .ok (.invokestatic 39, 3) := by decide +kernel
theorem dX10_setController_22 : decode cX10_setController 22 = .ok (.ifCond .eq 25, 3) := by decide +kernel
theorem dX10_setController_25 : decode cX10_setController 25 = .ok (.iload_n 3, 1) := by decide +kernel
theorem dX10_setController_26 : decode cX10_setController 26 = .ok (.iconst 0, 1) := by decide +kernel
theorem dX10_setController_27 : decode cX10_setController 27 = .ok (.sipush 200, 3) := by decide +kernel
theorem dX10_setController_30 : decode cX10_setController 30 = .ok (.invokestatic 39, 3) := by decide +kernel
theorem dX10_setController_33 : decode cX10_setController 33 = .ok (.ifCond .eq 14, 3) := by decide +kernel
theorem dX10_setController_36 : decode cX10_setController 36 = .ok (.iload 4, 2) := by decide +kernel
theorem dX10_setController_38 : decode cX10_setController 38 = .ok (.iconst 0, 1) := by decide +kernel
theorem dX10_setController_39 : decode cX10_setController 39 = .ok (.bipush 100, 2) := by decide +kernel
theorem dX10_setController_41 : decode cX10_setController 41 = .ok (.invokestatic 39, 3) := by decide +kernel
theorem dX10_setController_44 : decode cX10_setController 44 = .ok (.ifCond .ne 6, 3) := by decide +kernel
theorem dX10_setController_47 : decode cX10_setController 47 = .ok (.ldc 47, 2) := by decide +kernel
theorem dX10_setController_49 : decode cX10_setController 49 = .ok (.ireturn, 1) := by decide +kernel
theorem dX10_setController_50 : decode cX10_setController 50 = .ok (.aload_n 0, 1) := by decide +kernel
theorem dX10_setController_51 : decode cX10_setController 51 = .ok (.getfield 7, 3) := by decide +kernel
theorem dX10_setController_54 : decode cX10_setController 54 = .ok (.bipush 9, 2) := by decide +kernel
theorem dX10_setController_56 : decode cX10_setController 56 = .ok (.iaload, 1) := by decide +kernel
theorem dX10_setController_57 : decode cX10_setController 57 = .ok (.iload_n 1, 1) := by decide +kernel
theorem dX10_setController_58 : decode cX10_setController 58 = .ok (.if_icmp .ne 41, 3) := by decide +kernel
theorem dX10_setController_61 : decode cX10_setController 61 = .ok (.aload_n 0, 1) := by decide +kernel
theorem dX10_setController_62 : decode cX10_setController 62 = .ok (.getfield 7, 3) := by decide +kernel
theorem dX10_setController_65 : decode cX10_setController 65 = .ok (.bipush 10, 2) := by decide +kernel
theorem dX10_setController_67 : decode cX10_setController 67 = .ok (.iaload, 1) := by decide +kernel
theorem dX10_setController_68 : decode cX10_setController 68 = .ok (.iload_n 2, 1) := by decide +kernel
theorem dX10_setController_69 : decode cX10_setController 69 = .ok (.if_icmp .ne 30, 3) := by decide +kernel
theorem dX10_setController_72 : decode cX10_setController 72 = .ok (.aload_n 0, 1) := by decide +kernel
theorem dX10_setController_73 : decode cX10_setController 73 = .ok (.getfield 7, 3) := by decide +kernel
theorem dX10_setController_76 : decode cX10_setController 76 = .ok (.bipush 11, 2) := by decide +kernel
theorem dX10_setController_78 : decode cX10_setController 78 = .ok (.iaload, 1) := by decide +kernel
theorem dX10_setController_79 : decode cX10_setController 79 = .ok (.iload_n 3, 1) := by decide +kernel
theorem dX10_setController_80 : decode cX10_setController 80 = .ok (.if_icmp .ne 19, 3) := by decide +kernel
theorem dX10_setController_83 : decode cX10_setController 83 = .ok (.aload_n 0, 1) := by decide +kernel
theorem dX10_setController_84 : decode cX10_setController 84 = .ok (.getfield 7, 3) := by decide +kernel
theorem dX10_setController_87 : decode cX10_setController 87 = .ok (.bipush 12, 2) := by decide +kernel
theorem dX10_setController_89 : decode cX10_setController 89 = .ok (.iaload, 1) := by decide +kernel
theorem dX10_setController_90 : decode cX10_setController 90 = .ok (.iload 4, 2) := by decide +kernel
theorem dX10_setController_92 : decode cX10_setController 92 = .ok (.if_icmp .ne 7, 3) := by decide +kernel
theorem dX10_setController_95 : decode cX10_setController 95 = .ok (.iconst 1, 1) := by decide +kernel
theorem dX10_setController_96 : decode cX10_setController 96 = .ok (.goto 4, 3) := by decide +kernel
theorem dX10_setController_99 : decode cX10_setController 99 = .ok (.iconst 0, 1) := by decide +kernel
theorem dX10_setController_100 : decode cX10_setController 100 = .ok (.istore 5, 2) := by decide +kernel
theorem dX10_setController_102 : decode cX10_setController 102 = .ok (.aload_n 0, 1) := by decide +kernel
theorem dX10_setController_103 : decode cX10_setController 103 = .ok (.invokevirtual 36, 3) := by decide +kernel
theorem dX10_setController_106 : decode cX10_setController 106 = .ok (.aload_n 0, 1) := by decide +kernel
theorem dX10_setController_107 : decode cX10_setController 107 = .ok (.getfield 7, 3) := by decide +kernel
theorem dX10_setController_110 : decode cX10_setController 110 = .ok (.bipush 9, 2) := by decide +kernel
theorem dX10_setController_112 : decode cX10_setController 112 = .ok (.iload_n 1, 1) := by decide +kernel
theorem dX10_setController_113 : decode cX10_setController 113 = .ok (.iastore, 1) := by decide +kernel
theorem dX10_setController_114 : decode cX10_setController 114 = .ok (.aload_n 0, 1) := by decide +kernel
theorem dX10_setController_115 : decode cX10_setController 115 = .ok (.getfield 7, 3) := by decide +kernel
theorem dX10_setController_118 : decode cX10_setController 118 = .ok (.bipush 10, 2) := by decide +kernel
theorem dX10_setController_120 : decode cX10_setController 120 = .ok (.iload_n 2, 1) := by decide +kernel
theorem dX10_setController_121 : decode cX10_setController 121 = .ok (.iastore, 1) := by decide +kernel
theorem dX10_setController_122 : decode cX10_setController 122 = .ok (.aload_n 0, 1) := by decide +kernel
theorem dX10_setController_123 : decode cX10_setController 123 = .ok (.getfield 7, 3) := by decide +kernel
theorem dX10_setController_126 : decode cX10_setController 126 = .ok (.bipush 11, 2) := by decide +kernel
theorem dX10_setController_128 : decode cX10_setController 128 = .ok (.iload_n 3, 1) := by decide +kernel
theorem dX10_setController_129 : decode cX10_setController 129 = .ok (.iastore, 1) := by decide +kernel
theorem dX10_setController_130 : decode cX10_setController 130 = .ok (.aload_n 0, 1) := by decide +kernel
theorem dX10_setController_131 : decode cX10_setController 131 = .ok (.getfield 7, 3) := by decide +kernel
theorem dX10_setController_134 : decode cX10_setController 134 = .ok (.bipush 12, 2) := by decide +kernel
theorem dX10_setController_136 : decode cX10_setController 136 = .ok (.iload 4, 2) := by decide +kernel
theorem dX10_setController_138 : decode cX10_setController 138 = .ok (.iastore, 1) := by decide +kernel
theorem dX10_setController_139 : decode cX10_setController 139 = .ok (.iload 5, 2) := by decide +kernel
theorem dX10_setController_141 : decode cX10_setController 141 = .ok (.ifCond .eq 7, 3) := by decide +kernel
theorem dX10_setController_144 : decode cX10_setController 144 = .ok (.iconst 0, 1) := by decide +kernel
theorem dX10_setController_145 : decode cX10_setController 145 = .ok (.goto 4, 3) := by decide +kernel
theorem dX10_setController_148 : decode cX10_setController 148 = .ok (.iconst 1, 1) := by decide +kernel
theorem dX10_setController_149 : decode cX10_setController 149 = .ok (.ireturn, 1) := by decide +kernel
theorem dX10_setProbe_0 : decode cX10_setProbe 0 = .ok (.aload_n 0, 1) := by decide +kernel
theorem dX10_setProbe_1 : decode cX10_setProbe 1 = .ok (.iconst 0, 1) := by decide +kernel
theorem dX10_setProbe_2 : decode cX10_setProbe 2 = .ok (.putfield 25, 3) := by decide +kernel
theorem dX10_setProbe_5 : decode cX10_setProbe 5 = .ok (.iload_n 1, 1) := by decide +kernel
theorem dX10_setProbe_6 : decode cX10_setProbe 6 = .ok (.iconst 1, 1) := by decide +kernel
theorem dX10_setProbe_7 : decode cX10_setProbe 7 = .ok (.bipush 60, 2) := by decide +kernel
theorem dX10_setProbe_9 : decode cX10_setProbe 9 = .ok (.invokestatic 39, 3) := by decide +kernel
theorem dX10_setProbe_12 : decode cX10_setProbe 12 = .ok (.ifCond .eq 12, 3) := by decide +kernel
theorem dX10_setProbe_15 : decode cX10_setProbe 15 = .ok (.iload_n 2, 1) := by decide +kernel
theorem dX10_setProbe_16 : decode cX10_setProbe 16 = .ok (.iconst 0, 1) := by decide +kernel
theorem dX10_setProbe_17 : decode cX10_setProbe 17 = .ok (.iconst 5, 1) := by decide +kernel
theorem dX10_setProbe_18 : decode cX10_setProbe 18 = .ok (.invokestatic 39, 3) := by decide +kernel
theorem dX10_setProbe_21 : decode cX10_setProbe 21 = .ok (.ifCond .ne 6, 3) := by decide +kernel
theorem dX10_setProbe_24 : decode cX10_setProbe 24 = .ok (.ldc 47, 2) := by decide +kernel
theorem dX10_setProbe_26 : decode cX10_setProbe 26 = .ok (.ireturn, 1) := by decide +kernel
theorem dX10_setProbe_27 : decode cX10_setProbe 27 = .ok (.aload_n 0, 1) := by decide +kernel
theorem dX10_setProbe_28 : decode cX10_setProbe 28 = .ok (.iconst 5, 1) := by decide +kernel
theorem dX10_setProbe_29 : decode cX10_setProbe 29 = .ok (.iload_n 1, 1) := by decide +kernel
theorem dX10_setProbe_30 : decode cX10_setProbe 30 = .ok (.invokevirtual 43, 3) := by decide +kernel
theorem dX10_setProbe_33 : decode cX10_setProbe 33 = .ok (.istore_n 3, 1) := by decide +kernel
theorem dX10_setProbe_34 : decode cX10_setProbe 34 = .ok (.aload_n 0, 1) := by decide +kernel
theorem dX10_setProbe_35 : decode cX10_setProbe 35 = .ok (.getfield 7, 3) := by decide +kernel
theorem dX10_setProbe_38 : decode cX10_setProbe 38 = .ok (.bipush 6, 2) := by decide +kernel
theorem dX10_setProbe_40 : decode cX10_setProbe 40 = .ok (.iload_n 2, 1) := by decide +kernel
theorem dX10_setProbe_41 : decode cX10_setProbe 41 = .ok (.iastore, 1) := by decide +kernel
theorem dX10_setProbe_42 : decode cX10_setProbe 42 = .ok (.iload_n 3, 1) := by decide +kernel
theorem dX10_setProbe_43 : decode cX10_setProbe 43 = .ok (.ireturn, 1) := by decide +kernel
theorem dX10_setCrack_0 : decode cX10_setCrack 0 = .ok (.aload_n 0, 1) := by decide +kernel
theorem dX10_setCrack_1 : decode cX10_setCrack 1 = .ok (.iconst 0, 1) := by decide +kernel
theorem dX10_setCrack_2 : decode cX10_setCrack 2 = .ok (.putfield 25, 3) := by decide +kernel
theorem dX10_setCrack_5 : decode cX10_setCrack 5 = .ok (.iload_n 1, 1) := by decide +kernel
theorem dX10_setCrack_6 : decode cX10_setCrack 6 = .ok (.sipush 1500, 3) := by decide +kernel
theorem dX10_setCrack_9 : decode cX10_setCrack 9 = .ok (.sipush 2300, 3) := by decide +kernel
theorem dX10_setCrack_12 : decode cX10_setCrack 12 = .ok (.invokestatic 39, 3) := by decide +kernel
theorem dX10_setCrack_15 : decode cX10_setCrack 15 = .ok (.ifCond .eq 14, 3) := by decide +kernel
theorem dX10_setCrack_18 : decode cX10_setCrack 18 = .ok (.iload_n 2, 1) := by decide +kernel
theorem dX10_setCrack_19 : decode cX10_setCrack 19 = .ok (.iconst 1, 1) := by decide +kernel
theorem dX10_setCrack_20 : decode cX10_setCrack 20 = .ok (.sipush 600, 3) := by decide +kernel
theorem dX10_setCrack_23 : decode cX10_setCrack 23 = .ok (.invokestatic 39, 3) := by decide +kernel
theorem dX10_setCrack_26 : decode cX10_setCrack 26 = .ok (.ifCond .ne 6, 3) := by decide +kernel
theorem dX10_setCrack_29 : decode cX10_setCrack 29 = .ok (.ldc 47, 2) := by decide +kernel
theorem dX10_setCrack_31 : decode cX10_setCrack 31 = .ok (.ireturn, 1) := by decide +kernel
theorem dX10_setCrack_32 : decode cX10_setCrack 32 = .ok (.aload_n 0, 1) := by decide +kernel
theorem dX10_setCrack_33 : decode cX10_setCrack 33 = .ok (.getfield 7, 3) := by decide +kernel
theorem dX10_setCrack_36 : decode cX10_setCrack 36 = .ok (.bipush 14, 2) := by decide +kernel
theorem dX10_setCrack_38 : decode cX10_setCrack 38 = .ok (.iaload, 1) := by decide +kernel
theorem dX10_setCrack_39 : decode cX10_setCrack 39 = .ok (.iload_n 1, 1) := by decide +kernel
theorem dX10_setCrack_40 : decode cX10_setCrack 40 = .ok (.if_icmp .ne 18, 3) := by decide +kernel
theorem dX10_setCrack_43 : decode cX10_setCrack 43 = .ok (.aload_n 0, 1) := by decide +kernel
theorem dX10_setCrack_44 : decode cX10_setCrack 44 = .ok (.getfield 7, 3) := by decide +kernel
theorem dX10_setCrack_47 : decode cX10_setCrack 47 = .ok (.bipush 15, 2) := by decide +kernel
theorem dX10_setCrack_49 : decode cX10_setCrack 49 = .ok (.iaload, 1) := by decide +kernel
theorem dX10_setCrack_50 : decode cX10_setCrack 50 = .ok (.iload_n 2, 1) := by decide +kernel
theorem dX10_setCrack_51 : decode cX10_setCrack 51 = .ok (.if_icmp .ne 7, 3) := by decide +kernel
theorem dX10_setCrack_54 : decode cX10_setCrack 54 = .ok (.iconst 1, 1) := by decide +kernel
theorem dX10_setCrack_55 : decode cX10_setCrack 55 = .ok (.goto 4, 3) := by decide +kernel
theorem dX10_setCrack_58 : decode cX10_setCrack 58 = .ok (.iconst 0, 1) := by decide +kernel
theorem dX10_setCrack_59 : decode cX10_setCrack 59 = .ok (.istore_n 3, 1) := by decide +kernel
theorem dX10_setCrack_60 : decode cX10_setCrack 60 = .ok (.aload_n 0, 1) := by decide +kernel
theorem dX10_setCrack_61 : decode cX10_setCrack 61 = .ok (.invokevirtual 36, 3) := by decide +kernel
theorem dX10_setCrack_64 : decode cX10_setCrack 64 = .ok (.aload_n 0, 1) := by decide +kernel
theorem dX10_setCrack_65 : decode cX10_setCrack 65 = .ok (.getfield 7, 3) := by decide +kernel
theorem dX10_setCrack_68 : decode cX10_setCrack 68 = .ok (.bipush 14, 2) := by decide +kernel
theorem dX10_setCrack_70 : decode cX10_setCrack 70 = .ok (.iload_n 1, 1) := by decide +kernel
theorem dX10_setCrack_71 : decode cX10_setCrack 71 = .ok (.iastore, 1) := by decide +kernel
theorem dX10_setCrack_72 : decode cX10_setCrack 72 = .ok (.aload_n 0, 1) := by decide +kernel
theorem dX10_setCrack_73 : decode cX10_setCrack 73 = .ok (.getfield 7, 3) := by decide +kernel
theorem dX10_setCrack_76 : decode cX10_setCrack 76 = .ok (.bipush 15, 2) := by decide +kernel
theorem dX10_setCrack_78 : decode cX10_setCrack 78 = .ok (.iload_n 2, 1) := by decide +kernel
theorem dX10_setCrack_79 : decode cX10_setCrack 79 = .ok (.iastore, 1) := by decide +kernel
theorem dX10_setCrack_80 : decode cX10_setCrack 80 = .ok (.iload_n 3, 1) := by decide +kernel
theorem dX10_setCrack_81 : decode cX10_setCrack 81 = .ok (.ifCond .eq 7, 3) := by decide +kernel
theorem dX10_setCrack_84 : decode cX10_setCrack 84 = .ok (.iconst 0, 1) := by decide +kernel
theorem dX10_setCrack_85 : decode cX10_setCrack 85 = .ok (.goto 4, 3) := by decide +kernel
theorem dX10_setCrack_88 : decode cX10_setCrack 88 = .ok (.iconst 1, 1) := by decide +kernel
theorem dX10_setCrack_89 : decode cX10_setCrack 89 = .ok (.ireturn, 1) := by decide +kernel
theorem dX10_setFan_0 : decode cX10_setFan 0 = .ok (.aload_n 0, 1) := by decide +kernel
theorem dX10_setFan_1 : decode cX10_setFan 1 = .ok (.iconst 0, 1) := by decide +kernel
theorem dX10_setFan_2 : decode cX10_setFan 2 = .ok (.putfield 25, 3) := by decide +kernel
theorem dX10_setFan_5 : decode cX10_setFan 5 = .ok (.iload_n 1, 1) := by decide +kernel
theorem dX10_setFan_6 : decode cX10_setFan 6 = .ok (.iconst 1, 1) := by decide +kernel
theorem dX10_setFan_7 : decode cX10_setFan 7 = .ok (.bipush 50, 2) := by decide +kernel
theorem dX10_setFan_9 : decode cX10_setFan 9 = .ok (.invokestatic 39, 3) := by decide +kernel
theorem dX10_setFan_12 : decode cX10_setFan 12 = .ok (.ifCond .eq 13, 3) := by decide +kernel
theorem dX10_setFan_15 : decode cX10_setFan 15 = .ok (.aload_n 0, 1) := by decide +kernel
theorem dX10_setFan_16 : decode cX10_setFan 16 = .ok (.bipush 8, 2) := by decide +kernel
theorem dX10_setFan_18 : decode cX10_setFan 18 = .ok (.iload_n 1, 1) := by decide +kernel
theorem dX10_setFan_19 : decode cX10_setFan 19 = .ok (.invokevirtual 43, 3) := by decide +kernel
theorem dX10_setFan_22 : decode cX10_setFan 22 = .ok (.goto 5, 3) := by decide +kernel
theorem dX10_setFan_25 : decode cX10_setFan 25 = .ok (.ldc 47, 2) := by decide +kernel
theorem dX10_setFan_27 : decode cX10_setFan 27 = .ok (.ireturn, 1) := by decide +kernel
theorem dX10_place_0 : decode cX10_place 0 = .ok (.iconst 0, 1) := by decide +kernel
theorem dX10_place_1 : decode cX10_place 1 = .ok (.istore 4, 2) := by decide +kernel
theorem dX10_place_3 : decode cX10_place 3 = .ok (.iload 4, 2) := by decide +kernel
theorem dX10_place_5 : decode cX10_place 5 = .ok (.iload_n 2, 1) := by decide +kernel
theorem dX10_place_6 : decode cX10_place 6 = .ok (.if_icmp .ge 24, 3) := by decide +kernel
theorem dX10_place_9 : decode cX10_place 9 = .ok (.aload_n 0, 1) := by decide +kernel
theorem dX10_place_10 : decode cX10_place 10 = .ok (.getfield 7, 3) := by decide +kernel
theorem dX10_place_13 : decode cX10_place 13 = .ok (.iload_n 1, 1) := by decide +kernel
theorem dX10_place_14 : decode cX10_place 14 = .ok (.iconst 2, 1) := by decide +kernel
theorem dX10_place_15 : decode cX10_place 15 = .ok (.iload 4, 2) := by decide +kernel
theorem dX10_place_17 : decode cX10_place 17 = .ok (.imul, 1) := by decide +kernel
theorem dX10_place_18 : decode cX10_place 18 = .ok (.iadd, 1) := by decide +kernel
theorem dX10_place_19 : decode cX10_place 19 = .ok (.iaload, 1) := by decide +kernel
theorem dX10_place_20 : decode cX10_place 20 = .ok (.iload_n 3, 1) := by decide +kernel
theorem dX10_place_21 : decode cX10_place 21 = .ok (.if_icmp .ge 9, 3) := by decide +kernel
theorem dX10_place_24 : decode cX10_place 24 = .ok (.iinc 4 1, 3) := by decide +kernel
theorem dX10_place_27 : decode cX10_place 27 = .ok (.goto (-24), 3) := by decide +kernel
theorem dX10_place_30 : decode cX10_place 30 = .ok (.iload 4, 2) := by decide +kernel
theorem dX10_place_32 : decode cX10_place 32 = .ok (.ireturn, 1) := by decide +kernel
theorem dX10_isAt_0 : decode cX10_isAt 0 = .ok (.iload_n 3, 1) := by decide +kernel
theorem dX10_isAt_1 : decode cX10_isAt 1 = .ok (.iload_n 2, 1) := by decide +kernel
theorem dX10_isAt_2 : decode cX10_isAt 2 = .ok (.if_icmp .ge 22, 3) := by decide +kernel
theorem dX10_isAt_5 : decode cX10_isAt 5 = .ok (.aload_n 0, 1) := by decide +kernel
theorem dX10_isAt_6 : decode cX10_isAt 6 = .ok (.getfield 7, 3) := by decide +kernel
theorem dX10_isAt_9 : decode cX10_isAt 9 = .ok (.iload_n 1, 1) := by decide +kernel
theorem dX10_isAt_10 : decode cX10_isAt 10 = .ok (.iconst 2, 1) := by decide +kernel
theorem dX10_isAt_11 : decode cX10_isAt 11 = .ok (.iload_n 3, 1) := by decide +kernel
theorem dX10_isAt_12 : decode cX10_isAt 12 = .ok (.imul, 1) := by decide +kernel
theorem dX10_isAt_13 : decode cX10_isAt 13 = .ok (.iadd, 1) := by decide +kernel
theorem dX10_isAt_14 : decode cX10_isAt 14 = .ok (.iaload, 1) := by decide +kernel
theorem dX10_isAt_15 : decode cX10_isAt 15 = .ok (.iload 4, 2) := by decide +kernel
theorem dX10_isAt_17 : decode cX10_isAt 17 = .ok (.if_icmp .ne 7, 3) := by decide +kernel
theorem dX10_isAt_20 : decode cX10_isAt 20 = .ok (.iconst 1, 1) := by decide +kernel
theorem dX10_isAt_21 : decode cX10_isAt 21 = .ok (.goto 4, 3) := by decide +kernel
theorem dX10_isAt_24 : decode cX10_isAt 24 = .ok (.iconst 0, 1) := by decide +kernel
theorem dX10_isAt_25 : decode cX10_isAt 25 = .ok (.ireturn, 1) := by decide +kernel
theorem dX10_insert_0 : decode cX10_insert 0 = .ok (.aload_n 0, 1) := by decide +kernel
theorem dX10_insert_1 : decode cX10_insert 1 = .ok (.iload_n 1, 1) := by decide +kernel
theorem dX10_insert_2 : decode cX10_insert 2 = .ok (.aload_n 0, 1) := by decide +kernel
theorem dX10_insert_3 : decode cX10_insert 3 = .ok (.getfield 7, 3) := by decide +kernel
theorem dX10_insert_6 : decode cX10_insert 6 = .ok (.iload_n 2, 1) := by decide +kernel
theorem dX10_insert_7 : decode cX10_insert 7 = .ok (.iaload, 1) := by decide +kernel
theorem dX10_insert_8 : decode cX10_insert 8 = .ok (.iload_n 3, 1) := by decide +kernel
theorem dX10_insert_9 : decode cX10_insert 9 = .ok (.invokevirtual 48, 3) := by decide +kernel
theorem dX10_insert_12 : decode cX10_insert 12 = .ok (.istore 5, 2) := by decide +kernel
theorem dX10_insert_14 : decode cX10_insert 14 = .ok (.aload_n 0, 1) := by decide +kernel
theorem dX10_insert_15 : decode cX10_insert 15 = .ok (.iload_n 1, 1) := by decide +kernel
theorem dX10_insert_16 : decode cX10_insert 16 = .ok (.aload_n 0, 1) := by decide +kernel
theorem dX10_insert_17 : decode cX10_insert 17 = .ok (.getfield 7, 3) := by decide +kernel
theorem dX10_insert_20 : decode cX10_insert 20 = .ok (.iload_n 2, 1) := by decide +kernel
theorem dX10_insert_21 : decode cX10_insert 21 = .ok (.iaload, 1) := by decide +kernel
theorem dX10_insert_22 : decode cX10_insert 22 = .ok (.iload 5, 2) := by decide +kernel
theorem dX10_insert_24 : decode cX10_insert 24 = .ok (.iload_n 3, 1) := by decide +kernel
theorem dX10_insert_25 : decode cX10_insert 25 = .ok (.invokevirtual 52, 3) := by decide +kernel
theorem dX10_insert_28 : decode cX10_insert 28 = .ok (.ifCond .ne 62, 3) := by decide +kernel
theorem dX10_insert_31 : decode cX10_insert 31 = .ok (.iload_n 1, 1) := by decide +kernel
theorem dX10_insert_32 : decode cX10_insert 32 = .ok (.iconst 2, 1) := by decide +kernel
theorem dX10_insert_33 : decode cX10_insert 33 = .ok (.aload_n 0, 1) := by decide +kernel
theorem dX10_insert_34 : decode cX10_insert 34 = .ok (.getfield 7, 3) := by decide +kernel
theorem dX10_insert_37 : decode cX10_insert 37 = .ok (.iload_n 2, 1) := by decide +kernel
theorem dX10_insert_38 : decode cX10_insert 38 = .ok (.iaload, 1) := by decide +kernel
theorem dX10_insert_39 : decode cX10_insert 39 = .ok (.imul, 1) := by decide +kernel
theorem dX10_insert_40 : decode cX10_insert 40 = .ok (.iadd, 1) := by decide +kernel
theorem dX10_insert_41 : decode cX10_insert 41 = .ok (.iconst 1, 1) := by decide +kernel
theorem dX10_insert_42 : decode cX10_insert 42 = .ok (.iadd, 1) := by decide +kernel
theorem dX10_insert_43 : decode cX10_insert 43 = .ok (.istore 6, 2) := by decide +kernel
theorem dX10_insert_45 : decode cX10_insert 45 = .ok (.iload 6, 2) := by decide +kernel
theorem dX10_insert_47 : decode cX10_insert 47 = .ok (.iload_n 1, 1) := by decide +kernel
theorem dX10_insert_48 : decode cX10_insert 48 = .ok (.iconst 2, 1) := by decide +kernel
theorem dX10_insert_49 : decode cX10_insert 49 = .ok (.iload 5, 2) := by decide +kernel
theorem dX10_insert_51 : decode cX10_insert 51 = .ok (.imul, 1) := by decide +kernel
theorem dX10_insert_52 : decode cX10_insert 52 = .ok (.iadd, 1) := by decide +kernel
theorem dX10_insert_53 : decode cX10_insert 53 = .ok (.iconst 1, 1) := by decide +kernel
theorem dX10_insert_54 : decode cX10_insert 54 = .ok (.iadd, 1) := by decide +kernel
theorem dX10_insert_55 : decode cX10_insert 55 = .ok (.if_icmp .le 25, 3) := by decide +kernel
theorem dX10_insert_58 : decode cX10_insert 58 = .ok (.aload_n 0, 1) := by decide +kernel
theorem dX10_insert_59 : decode cX10_insert 59 = .ok (.getfield 7, 3) := by decide +kernel
theorem dX10_insert_62 : decode cX10_insert 62 = .ok (.iload 6, 2) := by decide +kernel
theorem dX10_insert_64 : decode cX10_insert 64 = .ok (.aload_n 0, 1) := by decide +kernel
theorem dX10_insert_65 : decode cX10_insert 65 = .ok (.getfield 7, 3) := by decide +kernel
theorem dX10_insert_68 : decode cX10_insert 68 = .ok (.iload 6, 2) := by decide +kernel
theorem dX10_insert_70 : decode cX10_insert 70 = .ok (.iconst 2, 1) := by decide +kernel
theorem dX10_insert_71 : decode cX10_insert 71 = .ok (.isub, 1) := by decide +kernel
theorem dX10_insert_72 : decode cX10_insert 72 = .ok (.iaload, 1) := by decide +kernel
theorem dX10_insert_73 : decode cX10_insert 73 = .ok (.iastore, 1) := by decide +kernel
theorem dX10_insert_74 : decode cX10_insert 74 = .ok (.iinc 6 (-1), 3) := by decide +kernel
theorem dX10_insert_77 : decode cX10_insert 77 = .ok (.goto (-32), 3) := by decide +kernel
theorem dX10_insert_80 : decode cX10_insert 80 = .ok (.aload_n 0, 1) := by decide +kernel
theorem dX10_insert_81 : decode cX10_insert 81 = .ok (.getfield 7, 3) := by decide +kernel
theorem dX10_insert_84 : decode cX10_insert 84 = .ok (.iload_n 2, 1) := by decide +kernel
theorem dX10_insert_85 : decode cX10_insert 85 = .ok (.dup2, 1) := by decide +kernel
theorem dX10_insert_86 : decode cX10_insert 86 = .ok (.iaload, 1) := by decide +kernel
theorem dX10_insert_87 : decode cX10_insert 87 = .ok (.iconst 1, 1) := by decide +kernel
theorem dX10_insert_88 : decode cX10_insert 88 = .ok (.iadd, 1) := by decide +kernel
theorem dX10_insert_89 : decode cX10_insert 89 = .ok (.iastore, 1) := by decide +kernel
theorem dX10_insert_90 : decode cX10_insert 90 = .ok (.aload_n 0, 1) := by decide +kernel
theorem dX10_insert_91 : decode cX10_insert 91 = .ok (.getfield 7, 3) := by decide +kernel
theorem dX10_insert_94 : decode cX10_insert 94 = .ok (.iload_n 1, 1) := by decide +kernel
theorem dX10_insert_95 : decode cX10_insert 95 = .ok (.iconst 2, 1) := by decide +kernel
theorem dX10_insert_96 : decode cX10_insert 96 = .ok (.iload 5, 2) := by decide +kernel
theorem dX10_insert_98 : decode cX10_insert 98 = .ok (.imul, 1) := by decide +kernel
theorem dX10_insert_99 : decode cX10_insert 99 = .ok (.iadd, 1) := by decide +kernel
theorem dX10_insert_100 : decode cX10_insert 100 = .ok (.iload_n 3, 1) := by decide +kernel
theorem dX10_insert_101 : decode cX10_insert 101 = .ok (.iastore, 1) := by decide +kernel
theorem dX10_insert_102 : decode cX10_insert 102 = .ok (.aload_n 0, 1) := by decide +kernel
theorem dX10_insert_103 : decode cX10_insert 103 = .ok (.getfield 7, 3) := by decide +kernel
theorem dX10_insert_106 : decode cX10_insert 106 = .ok (.iload_n 1, 1) := by decide +kernel
theorem dX10_insert_107 : decode cX10_insert 107 = .ok (.iconst 2, 1) := by decide +kernel
theorem dX10_insert_108 : decode cX10_insert 108 = .ok (.iload 5, 2) := by decide +kernel
theorem dX10_insert_110 : decode cX10_insert 110 = .ok (.imul, 1) := by decide +kernel
theorem dX10_insert_111 : decode cX10_insert 111 = .ok (.iadd, 1) := by decide +kernel
theorem dX10_insert_112 : decode cX10_insert 112 = .ok (.iconst 1, 1) := by decide +kernel
theorem dX10_insert_113 : decode cX10_insert 113 = .ok (.iadd, 1) := by decide +kernel
theorem dX10_insert_114 : decode cX10_insert 114 = .ok (.iload 4, 2) := by decide +kernel
theorem dX10_insert_116 : decode cX10_insert 116 = .ok (.iastore, 1) := by decide +kernel
theorem dX10_insert_117 : decode cX10_insert 117 = .ok (.return_, 1) := by decide +kernel
theorem dX10_takeOut_0 : decode cX10_takeOut 0 = .ok (.aload_n 0, 1) := by decide +kernel
theorem dX10_takeOut_1 : decode cX10_takeOut 1 = .ok (.getfield 7, 3) := by decide +kernel
theorem dX10_takeOut_4 : decode cX10_takeOut 4 = .ok (.iload_n 2, 1) := by decide +kernel
theorem dX10_takeOut_5 : decode cX10_takeOut 5 = .ok (.dup2, 1) := by decide +kernel
theorem dX10_takeOut_6 : decode cX10_takeOut 6 = .ok (.iaload, 1) := by decide +kernel
theorem dX10_takeOut_7 : decode cX10_takeOut 7 = .ok (.iconst 1, 1) := by decide +kernel
theorem dX10_takeOut_8 : decode cX10_takeOut 8 = .ok (.isub, 1) := by decide +kernel
theorem dX10_takeOut_9 : decode cX10_takeOut 9 = .ok (.iastore, 1) := by decide +kernel
theorem dX10_takeOut_10 : decode cX10_takeOut 10 = .ok (.iload_n 1, 1) := by decide +kernel
theorem dX10_takeOut_11 : decode cX10_takeOut 11 = .ok (.iconst 2, 1) := by decide +kernel
theorem dX10_takeOut_12 : decode cX10_takeOut 12 = .ok (.iload_n 3, 1) := by decide +kernel
theorem dX10_takeOut_13 : decode cX10_takeOut 13 = .ok (.imul, 1) := by decide +kernel
theorem dX10_takeOut_14 : decode cX10_takeOut 14 = .ok (.iadd, 1) := by decide +kernel
theorem dX10_takeOut_15 : decode cX10_takeOut 15 = .ok (.istore 4, 2) := by decide +kernel
theorem dX10_takeOut_17 : decode cX10_takeOut 17 = .ok (.iload 4, 2) := by decide +kernel
theorem dX10_takeOut_19 : decode cX10_takeOut 19 = .ok (.iload_n 1, 1) := by decide +kernel
theorem dX10_takeOut_20 : decode cX10_takeOut 20 = .ok (.iconst 2, 1) := by decide +kernel
theorem dX10_takeOut_21 : decode cX10_takeOut 21 = .ok (.aload_n 0, 1) := by decide +kernel
theorem dX10_takeOut_22 : decode cX10_takeOut 22 = .ok (.getfield 7, 3) := by decide +kernel
theorem dX10_takeOut_25 : decode cX10_takeOut 25 = .ok (.iload_n 2, 1) := by decide +kernel
theorem dX10_takeOut_26 : decode cX10_takeOut 26 = .ok (.iaload, 1) := by decide +kernel
theorem dX10_takeOut_27 : decode cX10_takeOut 27 = .ok (.imul, 1) := by decide +kernel
theorem dX10_takeOut_28 : decode cX10_takeOut 28 = .ok (.iadd, 1) := by decide +kernel
theorem dX10_takeOut_29 : decode cX10_takeOut 29 = .ok (.if_icmp .ge 25, 3) := by decide +kernel
theorem dX10_takeOut_32 : decode cX10_takeOut 32 = .ok (.aload_n 0, 1) := by decide +kernel
theorem dX10_takeOut_33 : decode cX10_takeOut 33 = .ok (.getfield 7, 3) := by decide +kernel
theorem dX10_takeOut_36 : decode cX10_takeOut 36 = .ok (.iload 4, 2) := by decide +kernel
theorem dX10_takeOut_38 : decode cX10_takeOut 38 = .ok (.aload_n 0, 1) := by decide +kernel
theorem dX10_takeOut_39 : decode cX10_takeOut 39 = .ok (.getfield 7, 3) := by decide +kernel
theorem dX10_takeOut_42 : decode cX10_takeOut 42 = .ok (.iload 4, 2) := by decide +kernel
theorem dX10_takeOut_44 : decode cX10_takeOut 44 = .ok (.iconst 2, 1) := by decide +kernel
theorem dX10_takeOut_45 : decode cX10_takeOut 45 = .ok (.iadd, 1) := by decide +kernel
theorem dX10_takeOut_46 : decode cX10_takeOut 46 = .ok (.iaload, 1) := by decide +kernel
theorem dX10_takeOut_47 : decode cX10_takeOut 47 = .ok (.iastore, 1) := by decide +kernel
theorem dX10_takeOut_48 : decode cX10_takeOut 48 = .ok (.iinc 4 1, 3) := by decide +kernel
theorem dX10_takeOut_51 : decode cX10_takeOut 51 = .ok (.goto (-34), 3) := by decide +kernel
theorem dX10_takeOut_54 : decode cX10_takeOut 54 = .ok (.return_, 1) := by decide +kernel
theorem dX10_setPoint_0 : decode cX10_setPoint 0 = .ok (.aload_n 0, 1) := by decide +kernel
theorem dX10_setPoint_1 : decode cX10_setPoint 1 = .ok (.iconst 0, 1) := by decide +kernel
theorem dX10_setPoint_2 : decode cX10_setPoint 2 = .ok (.putfield 25, 3) := by decide +kernel
theorem dX10_setPoint_5 : decode cX10_setPoint 5 = .ok (.iload_n 1, 1) := by decide +kernel
theorem dX10_setPoint_6 : decode cX10_setPoint 6 = .ok (.iconst 0, 1) := by decide +kernel
theorem dX10_setPoint_7 : decode cX10_setPoint 7 = .ok (.sipush 400, 3) := by decide +kernel
theorem dX10_setPoint_10 : decode cX10_setPoint 10 = .ok (.invokestatic 39, 3) := by decide +kernel
theorem dX10_setPoint_13 : decode cX10_setPoint 13 = .ok (.ifCond .eq 14, 3) := by decide +kernel
theorem dX10_setPoint_16 : decode cX10_setPoint 16 = .ok (.iload_n 2, 1) := by decide +kernel
theorem dX10_setPoint_17 : decode cX10_setPoint 17 = .ok (.iconst 0, 1) := by decide +kernel
theorem dX10_setPoint_18 : decode cX10_setPoint 18 = .ok (.sipush 3000, 3) := by decide +kernel
theorem dX10_setPoint_21 : decode cX10_setPoint 21 = .ok (.invokestatic 39, 3) := by decide +kernel
theorem dX10_setPoint_24 : decode cX10_setPoint 24 = .ok (.ifCond .ne 6, 3) := by decide +kernel
theorem dX10_setPoint_27 : decode cX10_setPoint 27 = .ok (.ldc 47, 2) := by decide +kernel
theorem dX10_setPoint_29 : decode cX10_setPoint 29 = .ok (.ireturn, 1) := by decide +kernel
theorem dX10_setPoint_30 : decode cX10_setPoint 30 = .ok (.aload_n 0, 1) := by decide +kernel
theorem dX10_setPoint_31 : decode cX10_setPoint 31 = .ok (.bipush 33, 2) := by decide +kernel
theorem dX10_setPoint_33 : decode cX10_setPoint 33 = .ok (.aload_n 0, 1) := by decide +kernel
theorem dX10_setPoint_34 : decode cX10_setPoint 34 = .ok (.getfield 7, 3) := by decide +kernel
theorem dX10_setPoint_37 : decode cX10_setPoint 37 = .ok (.bipush 32, 2) := by decide +kernel
theorem dX10_setPoint_39 : decode cX10_setPoint 39 = .ok (.iaload, 1) := by decide +kernel
theorem dX10_setPoint_40 : decode cX10_setPoint 40 = .ok (.aload_n 0, 1) := by decide +kernel
theorem dX10_setPoint_41 : decode cX10_setPoint 41 = .ok (.bipush 33, 2) := by decide +kernel
theorem dX10_setPoint_43 : decode cX10_setPoint 43 = .ok (.aload_n 0, 1) := by decide +kernel
theorem dX10_setPoint_44 : decode cX10_setPoint 44 = .ok (.getfield 7, 3) := by decide +kernel
theorem dX10_setPoint_47 : decode cX10_setPoint 47 = .ok (.bipush 32, 2) := by decide +kernel
theorem dX10_setPoint_49 : decode cX10_setPoint 49 = .ok (.iaload, 1) := by decide +kernel
theorem dX10_setPoint_50 : decode cX10_setPoint 50 = .ok (.iload_n 1, 1) := by decide +kernel
theorem dX10_setPoint_51 : decode cX10_setPoint 51 = .ok (.invokevirtual 48, 3) := by decide +kernel
theorem dX10_setPoint_54 : decode cX10_setPoint 54 = .ok (.iload_n 1, 1) := by decide +kernel
theorem dX10_setPoint_55 : decode cX10_setPoint 55 = .ok (.invokevirtual 52, 3) := by decide +kernel
theorem dX10_setPoint_58 : decode cX10_setPoint 58 = .ok (.istore_n 3, 1) := by decide +kernel
theorem dX10_setPoint_59 : decode cX10_setPoint 59 = .ok (.iload_n 3, 1) := by decide +kernel
theorem dX10_setPoint_60 : decode cX10_setPoint 60 = .ok (.ifCond .ne 18, 3) := by decide +kernel
theorem dX10_setPoint_63 : decode cX10_setPoint 63 = .ok (.aload_n 0, 1) := by decide +kernel
theorem dX10_setPoint_64 : decode cX10_setPoint 64 = .ok (.getfield 7, 3) := by decide +kernel
theorem dX10_setPoint_67 : decode cX10_setPoint 67 = .ok (.bipush 32, 2) := by decide +kernel
theorem dX10_setPoint_69 : decode cX10_setPoint 69 = .ok (.iaload, 1) := by decide +kernel
theorem dX10_setPoint_70 : decode cX10_setPoint 70 = .ok (.bipush 8, 2) := by decide +kernel
theorem dX10_setPoint_72 : decode cX10_setPoint 72 = .ok (.if_icmp .ne 6, 3) := by decide +kernel
theorem dX10_setPoint_75 : decode cX10_setPoint 75 = .ok (.ldc 56, 2) := by decide +kernel
theorem dX10_setPoint_77 : decode cX10_setPoint 77 = .ok (.ireturn, 1) := by decide +kernel
theorem dX10_setPoint_78 : decode cX10_setPoint 78 = .ok (.aload_n 0, 1) := by decide +kernel
theorem dX10_setPoint_79 : decode cX10_setPoint 79 = .ok (.invokevirtual 36, 3) := by decide +kernel
theorem dX10_setPoint_82 : decode cX10_setPoint 82 = .ok (.aload_n 0, 1) := by decide +kernel
theorem dX10_setPoint_83 : decode cX10_setPoint 83 = .ok (.bipush 33, 2) := by decide +kernel
theorem dX10_setPoint_85 : decode cX10_setPoint 85 = .ok (.bipush 32, 2) := by decide +kernel
theorem dX10_setPoint_87 : decode cX10_setPoint 87 = .ok (.iload_n 1, 1) := by decide +kernel
theorem dX10_setPoint_88 : decode cX10_setPoint 88 = .ok (.iload_n 2, 1) := by decide +kernel
theorem dX10_setPoint_89 : decode cX10_setPoint 89 = .ok (.invokevirtual 57, 3) := by decide +kernel
theorem dX10_setPoint_92 : decode cX10_setPoint 92 = .ok (.aload_n 0, 1) := by decide +kernel
theorem dX10_setPoint_93 : decode cX10_setPoint 93 = .ok (.getfield 7, 3) := by decide +kernel
theorem dX10_setPoint_96 : decode cX10_setPoint 96 = .ok (.bipush 32, 2) := by decide +kernel
theorem dX10_setPoint_98 : decode cX10_setPoint 98 = .ok (.iaload, 1) := by decide +kernel
theorem dX10_setPoint_99 : decode cX10_setPoint 99 = .ok (.ireturn, 1) := by decide +kernel
theorem dX10_removePoint_0 : decode cX10_removePoint 0 = .ok (.aload_n 0, 1) := by decide +kernel
theorem dX10_removePoint_1 : decode cX10_removePoint 1 = .ok (.iconst 0, 1) := by decide +kernel
theorem dX10_removePoint_2 : decode cX10_removePoint 2 = .ok (.putfield 25, 3) := by decide +kernel
theorem dX10_removePoint_5 : decode cX10_removePoint 5 = .ok (.iload_n 1, 1) := by decide +kernel
theorem dX10_removePoint_6 : decode cX10_removePoint 6 = .ok (.iconst 0, 1) := by decide +kernel
theorem dX10_removePoint_7 : decode cX10_removePoint 7 = .ok (.sipush 400, 3) := by decide +kernel
theorem dX10_removePoint_10 : decode cX10_removePoint 10 = .ok (.invokestatic 39, 3) := by decide +kernel
theorem dX10_removePoint_13 : decode cX10_removePoint 13 = .ok (.ifCond .ne 6, 3) := by decide +kernel
theorem dX10_removePoint_16 : decode cX10_removePoint 16 = .ok (.ldc 47, 2) := by decide +kernel
theorem dX10_removePoint_18 : decode cX10_removePoint 18 = .ok (.ireturn, 1) := by decide +kernel
theorem dX10_removePoint_19 : decode cX10_removePoint 19 = .ok (.aload_n 0, 1) := by decide +kernel
theorem dX10_removePoint_20 : decode cX10_removePoint 20 = .ok (.bipush 33, 2) := by decide +kernel
theorem dX10_removePoint_22 : decode cX10_removePoint 22 = .ok (.aload_n 0, 1) := by decide +kernel
theorem dX10_removePoint_23 : decode cX10_removePoint 23 = .ok (.getfield 7, 3) := by decide +kernel
theorem dX10_removePoint_26 : decode cX10_removePoint 26 = .ok (.bipush 32, 2) := by decide +kernel
theorem dX10_removePoint_28 : decode cX10_removePoint 28 = .ok (.iaload, 1) := by decide +kernel
theorem dX10_removePoint_29 : decode cX10_removePoint 29 = .ok (.iload_n 1, 1) := by decide +kernel
theorem dX10_removePoint_30 : decode cX10_removePoint 30 = .ok (.invokevirtual 48, 3) := by decide +kernel
theorem dX10_removePoint_33 : decode cX10_removePoint 33 = .ok (.istore_n 2, 1) := by decide +kernel
theorem dX10_removePoint_34 : decode cX10_removePoint 34 = .ok (.aload_n 0, 1) := by decide +kernel
theorem dX10_removePoint_35 : decode cX10_removePoint 35 = .ok (.bipush 33, 2) := by decide +kernel
theorem dX10_removePoint_37 : decode cX10_removePoint 37 = .ok (.aload_n 0, 1) := by decide +kernel
theorem dX10_removePoint_38 : decode cX10_removePoint 38 = .ok (.getfield 7, 3) := by decide +kernel
theorem dX10_removePoint_41 : decode cX10_removePoint 41 = .ok (.bipush 32, 2) := by decide +kernel
theorem dX10_removePoint_43 : decode cX10_removePoint 43 = .ok (.iaload, 1) := by decide +kernel
theorem dX10_removePoint_44 : decode cX10_removePoint 44 = .ok (.iload_n 2, 1) := by decide +kernel
theorem dX10_removePoint_45 : decode cX10_removePoint 45 = .ok (.iload_n 1, 1) := by decide +kernel
theorem dX10_removePoint_46 : decode cX10_removePoint 46 = .ok (.invokevirtual 52, 3) := by decide +kernel
theorem dX10_removePoint_49 : decode cX10_removePoint 49 = .ok (.ifCond .ne 6, 3) := by decide +kernel
theorem dX10_removePoint_52 : decode cX10_removePoint 52 = .ok (.ldc 61, 2) := by decide +kernel
theorem dX10_removePoint_54 : decode cX10_removePoint 54 = .ok (.ireturn, 1) := by decide +kernel
theorem dX10_removePoint_55 : decode cX10_removePoint 55 = .ok (.aload_n 0, 1) := by decide +kernel
theorem dX10_removePoint_56 : decode cX10_removePoint 56 = .ok (.invokevirtual 36, 3) := by decide +kernel
theorem dX10_removePoint_59 : decode cX10_removePoint 59 = .ok (.aload_n 0, 1) := by decide +kernel
theorem dX10_removePoint_60 : decode cX10_removePoint 60 = .ok (.getfield 7, 3) := by decide +kernel
theorem dX10_removePoint_63 : decode cX10_removePoint 63 = .ok (.bipush 33, 2) := by decide +kernel
theorem dX10_removePoint_65 : decode cX10_removePoint 65 = .ok (.iconst 2, 1) := by decide +kernel
theorem dX10_removePoint_66 : decode cX10_removePoint 66 = .ok (.iload_n 2, 1) := by decide +kernel
theorem dX10_removePoint_67 : decode cX10_removePoint 67 = .ok (.imul, 1) := by decide +kernel
theorem dX10_removePoint_68 : decode cX10_removePoint 68 = .ok (.iadd, 1) := by decide +kernel
theorem dX10_removePoint_69 : decode cX10_removePoint 69 = .ok (.iconst 1, 1) := by decide +kernel
theorem dX10_removePoint_70 : decode cX10_removePoint 70 = .ok (.iadd, 1) := by decide +kernel
theorem dX10_removePoint_71 : decode cX10_removePoint 71 = .ok (.iaload, 1) := by decide +kernel
theorem dX10_removePoint_72 : decode cX10_removePoint 72 = .ok (.istore_n 3, 1) := by decide +kernel
theorem dX10_removePoint_73 : decode cX10_removePoint 73 = .ok (.aload_n 0, 1) := by decide +kernel
theorem dX10_removePoint_74 : decode cX10_removePoint 74 = .ok (.bipush 33, 2) := by decide +kernel
theorem dX10_removePoint_76 : decode cX10_removePoint 76 = .ok (.bipush 32, 2) := by decide +kernel
theorem dX10_removePoint_78 : decode cX10_removePoint 78 = .ok (.iload_n 2, 1) := by decide +kernel
theorem dX10_removePoint_79 : decode cX10_removePoint 79 = .ok (.invokevirtual 62, 3) := by decide +kernel
theorem dX10_removePoint_82 : decode cX10_removePoint 82 = .ok (.iload_n 3, 1) := by decide +kernel
theorem dX10_removePoint_83 : decode cX10_removePoint 83 = .ok (.ireturn, 1) := by decide +kernel
theorem dX10_setRow_0 : decode cX10_setRow 0 = .ok (.aload_n 0, 1) := by decide +kernel
theorem dX10_setRow_1 : decode cX10_setRow 1 = .ok (.iconst 0, 1) := by decide +kernel
theorem dX10_setRow_2 : decode cX10_setRow 2 = .ok (.putfield 25, 3) := by decide +kernel
theorem dX10_setRow_5 : decode cX10_setRow 5 = .ok (.iload_n 1, 1) := by decide +kernel
theorem dX10_setRow_6 : decode cX10_setRow 6 = .ok (.iconst 0, 1) := by decide +kernel
theorem dX10_setRow_7 : decode cX10_setRow 7 = .ok (.sipush 3000, 3) := by decide +kernel
theorem dX10_setRow_10 : decode cX10_setRow 10 = .ok (.invokestatic 39, 3) := by decide +kernel
theorem dX10_setRow_13 : decode cX10_setRow 13 = .ok (.ifCond .eq 14, 3) := by decide +kernel
theorem dX10_setRow_16 : decode cX10_setRow 16 = .ok (.iload_n 2, 1) := by decide +kernel
theorem dX10_setRow_17 : decode cX10_setRow 17 = .ok (.iconst (-1), 1) := by decide +kernel
theorem dX10_setRow_18 : decode cX10_setRow 18 = .ok (.sipush 999, 3) := by decide +kernel
theorem dX10_setRow_21 : decode cX10_setRow 21 = .ok (.invokestatic 39, 3) := by decide +kernel
theorem dX10_setRow_24 : decode cX10_setRow 24 = .ok (.ifCond .ne 6, 3) := by decide +kernel
theorem dX10_setRow_27 : decode cX10_setRow 27 = .ok (.ldc 47, 2) := by decide +kernel
theorem dX10_setRow_29 : decode cX10_setRow 29 = .ok (.ireturn, 1) := by decide +kernel
theorem dX10_setRow_30 : decode cX10_setRow 30 = .ok (.aload_n 0, 1) := by decide +kernel
theorem dX10_setRow_31 : decode cX10_setRow 31 = .ok (.bipush 50, 2) := by decide +kernel
theorem dX10_setRow_33 : decode cX10_setRow 33 = .ok (.aload_n 0, 1) := by decide +kernel
theorem dX10_setRow_34 : decode cX10_setRow 34 = .ok (.getfield 7, 3) := by decide +kernel
theorem dX10_setRow_37 : decode cX10_setRow 37 = .ok (.bipush 49, 2) := by decide +kernel
theorem dX10_setRow_39 : decode cX10_setRow 39 = .ok (.iaload, 1) := by decide +kernel
theorem dX10_setRow_40 : decode cX10_setRow 40 = .ok (.iload_n 1, 1) := by decide +kernel
theorem dX10_setRow_41 : decode cX10_setRow 41 = .ok (.invokevirtual 48, 3) := by decide +kernel
theorem dX10_setRow_44 : decode cX10_setRow 44 = .ok (.istore_n 3, 1) := by decide +kernel
theorem dX10_setRow_45 : decode cX10_setRow 45 = .ok (.aload_n 0, 1) := by decide +kernel
theorem dX10_setRow_46 : decode cX10_setRow 46 = .ok (.bipush 50, 2) := by decide +kernel
theorem dX10_setRow_48 : decode cX10_setRow 48 = .ok (.aload_n 0, 1) := by decide +kernel
theorem dX10_setRow_49 : decode cX10_setRow 49 = .ok (.getfield 7, 3) := by decide +kernel
theorem dX10_setRow_52 : decode cX10_setRow 52 = .ok (.bipush 49, 2) := by decide +kernel
theorem dX10_setRow_54 : decode cX10_setRow 54 = .ok (.iaload, 1) := by decide +kernel
theorem dX10_setRow_55 : decode cX10_setRow 55 = .ok (.iload_n 3, 1) := by decide +kernel
theorem dX10_setRow_56 : decode cX10_setRow 56 = .ok (.iload_n 1, 1) := by decide +kernel
theorem dX10_setRow_57 : decode cX10_setRow 57 = .ok (.invokevirtual 52, 3) := by decide +kernel
theorem dX10_setRow_60 : decode cX10_setRow 60 = .ok (.istore 4, 2) := by decide +kernel
theorem dX10_setRow_62 : decode cX10_setRow 62 = .ok (.iload_n 2, 1) := by decide +kernel
theorem dX10_setRow_63 : decode cX10_setRow 63 = .ok (.ifCond .ge 11, 3) := by decide +kernel
theorem dX10_setRow_66 : decode cX10_setRow 66 = .ok (.iload 4, 2) := by decide +kernel
theorem dX10_setRow_68 : decode cX10_setRow 68 = .ok (.ifCond .ne 6, 3) := by decide +kernel
theorem dX10_setRow_71 : decode cX10_setRow 71 = .ok (.ldc 61, 2) := by decide +kernel
theorem dX10_setRow_73 : decode cX10_setRow 73 = .ok (.ireturn, 1) := by decide +kernel
theorem dX10_setRow_74 : decode cX10_setRow 74 = .ok (.iload 4, 2) := by decide +kernel
theorem dX10_setRow_76 : decode cX10_setRow 76 = .ok (.ifCond .ne 18, 3) := by decide +kernel
theorem dX10_setRow_79 : decode cX10_setRow 79 = .ok (.aload_n 0, 1) := by decide +kernel
theorem dX10_setRow_80 : decode cX10_setRow 80 = .ok (.getfield 7, 3) := by decide +kernel
theorem dX10_setRow_83 : decode cX10_setRow 83 = .ok (.bipush 49, 2) := by decide +kernel
theorem dX10_setRow_85 : decode cX10_setRow 85 = .ok (.iaload, 1) := by decide +kernel
theorem dX10_setRow_86 : decode cX10_setRow 86 = .ok (.bipush 6, 2) := by decide +kernel
theorem dX10_setRow_88 : decode cX10_setRow 88 = .ok (.if_icmp .ne 6, 3) := by decide +kernel
theorem dX10_setRow_91 : decode cX10_setRow 91 = .ok (.ldc 56, 2) := by decide +kernel
theorem dX10_setRow_93 : decode cX10_setRow 93 = .ok (.ireturn, 1) := by decide +kernel
theorem dX10_setRow_94 : decode cX10_setRow 94 = .ok (.aload_n 0, 1) := by decide +kernel
theorem dX10_setRow_95 : decode cX10_setRow 95 = .ok (.invokevirtual 36, 3) := by decide +kernel
theorem dX10_setRow_98 : decode cX10_setRow 98 = .ok (.iload_n 2, 1) := by decide +kernel
theorem dX10_setRow_99 : decode cX10_setRow 99 = .ok (.ifCond .ge 15, 3) := by decide +kernel
theorem dX10_setRow_102 : decode cX10_setRow 102 = .ok (.aload_n 0, 1) := by decide +kernel
theorem dX10_setRow_103 : decode cX10_setRow 103 = .ok (.bipush 50, 2) := by decide +kernel
theorem dX10_setRow_105 : decode cX10_setRow 105 = .ok (.bipush 49, 2) := by decide +kernel
theorem dX10_setRow_107 : decode cX10_setRow 107 = .ok (.iload_n 3, 1) := by decide +kernel
theorem dX10_setRow_108 : decode cX10_setRow 108 = .ok (.invokevirtual 62, 3) := by decide +kernel
theorem dX10_setRow_111 : decode cX10_setRow 111 = .ok (.goto 13, 3) := by decide +kernel
theorem dX10_setRow_114 : decode cX10_setRow 114 = .ok (.aload_n 0, 1) := by decide +kernel
theorem dX10_setRow_115 : decode cX10_setRow 115 = .ok (.bipush 50, 2) := by decide +kernel
theorem dX10_setRow_117 : decode cX10_setRow 117 = .ok (.bipush 49, 2) := by decide +kernel
theorem dX10_setRow_119 : decode cX10_setRow 119 = .ok (.iload_n 1, 1) := by decide +kernel
theorem dX10_setRow_120 : decode cX10_setRow 120 = .ok (.iload_n 2, 1) := by decide +kernel
theorem dX10_setRow_121 : decode cX10_setRow 121 = .ok (.invokevirtual 57, 3) := by decide +kernel
theorem dX10_setRow_124 : decode cX10_setRow 124 = .ok (.aload_n 0, 1) := by decide +kernel
theorem dX10_setRow_125 : decode cX10_setRow 125 = .ok (.getfield 7, 3) := by decide +kernel
theorem dX10_setRow_128 : decode cX10_setRow 128 = .ok (.bipush 49, 2) := by decide +kernel
theorem dX10_setRow_130 : decode cX10_setRow 130 = .ok (.iaload, 1) := by decide +kernel
theorem dX10_setRow_131 : decode cX10_setRow 131 = .ok (.ireturn, 1) := by decide +kernel
theorem dX10_append_0 : decode cX10_append 0 = .ok (.aload_n 0, 1) := by decide +kernel
theorem dX10_append_1 : decode cX10_append 1 = .ok (.iconst 0, 1) := by decide +kernel
theorem dX10_append_2 : decode cX10_append 2 = .ok (.putfield 25, 3) := by decide +kernel
theorem dX10_append_5 : decode cX10_append 5 = .ok (.iload_n 1, 1) := by decide +kernel
theorem dX10_append_6 : decode cX10_append 6 = .ok (.iconst 1, 1) := by decide +kernel
theorem dX10_append_7 : decode cX10_append 7 = .ok (.sipush 255, 3) := by decide +kernel
theorem dX10_append_10 : decode cX10_append 10 = .ok (.invokestatic 39, 3) := by decide +kernel
theorem dX10_append_13 : decode cX10_append 13 = .ok (.ifCond .ne 6, 3) := by decide +kernel
theorem dX10_append_16 : decode cX10_append 16 = .ok (.ldc 47, 2) := by decide +kernel
theorem dX10_append_18 : decode cX10_append 18 = .ok (.ireturn, 1) := by decide +kernel
theorem dX10_append_19 : decode cX10_append 19 = .ok (.aload_n 0, 1) := by decide +kernel
theorem dX10_append_20 : decode cX10_append 20 = .ok (.getfield 65, 3) := by decide +kernel
theorem dX10_append_23 : decode cX10_append 23 = .ok (.bipush 100, 2) := by decide +kernel
theorem dX10_append_25 : decode cX10_append 25 = .ok (.if_icmp .ne 6, 3) := by decide +kernel
theorem dX10_append_28 : decode cX10_append 28 = .ok (.ldc 56, 2) := by decide +kernel
theorem dX10_append_30 : decode cX10_append 30 = .ok (.ireturn, 1) := by decide +kernel
theorem dX10_append_31 : decode cX10_append 31 = .ok (.aload_n 0, 1) := by decide +kernel
theorem dX10_append_32 : decode cX10_append 32 = .ok (.getfield 19, 3) := by decide +kernel
theorem dX10_append_35 : decode cX10_append 35 = .ok (.aload_n 0, 1) := by decide +kernel
theorem dX10_append_36 : decode cX10_append 36 = .ok (.getfield 65, 3) := by decide +kernel
theorem dX10_append_39 : decode cX10_append 39 = .ok (.iload_n 1, 1) := by decide +kernel
theorem dX10_append_40 : decode cX10_append 40 = .ok (.iastore, 1) := by decide +kernel
theorem dX10_append_41 : decode cX10_append 41 = .ok (.aload_n 0, 1) := by decide +kernel
theorem dX10_append_42 : decode cX10_append 42 = .ok (.dup, 1) := by decide +kernel
theorem dX10_append_43 : decode cX10_append 43 = .ok (.getfield 65, 3) := by decide +kernel
theorem dX10_append_46 : decode cX10_append 46 = .ok (.iconst 1, 1) := by decide +kernel
theorem dX10_append_47 : decode cX10_append 47 = .ok (.iadd, 1) := by decide +kernel
theorem dX10_append_48 : decode cX10_append 48 = .ok (.putfield 65, 3) := by decide +kernel
theorem dX10_append_51 : decode cX10_append 51 = .ok (.aload_n 0, 1) := by decide +kernel
theorem dX10_append_52 : decode cX10_append 52 = .ok (.getfield 65, 3) := by decide +kernel
theorem dX10_append_55 : decode cX10_append 55 = .ok (.ireturn, 1) := by decide +kernel
theorem dX10_clearText_0 : decode cX10_clearText 0 = .ok (.aload_n 0, 1) := by decide +kernel
theorem dX10_clearText_1 : decode cX10_clearText 1 = .ok (.iconst 0, 1) := by decide +kernel
theorem dX10_clearText_2 : decode cX10_clearText 2 = .ok (.putfield 25, 3) := by decide +kernel
theorem dX10_clearText_5 : decode cX10_clearText 5 = .ok (.aload_n 0, 1) := by decide +kernel
theorem dX10_clearText_6 : decode cX10_clearText 6 = .ok (.getfield 65, 3) := by decide +kernel
theorem dX10_clearText_9 : decode cX10_clearText 9 = .ok (.istore_n 1, 1) := by decide +kernel
theorem dX10_clearText_10 : decode cX10_clearText 10 = .ok (.aload_n 0, 1) := by decide +kernel
theorem dX10_clearText_11 : decode cX10_clearText 11 = .ok (.iconst 0, 1) := by decide +kernel
theorem dX10_clearText_12 : decode cX10_clearText 12 = .ok (.putfield 65, 3) := by decide +kernel
theorem dX10_clearText_15 : decode cX10_clearText 15 = .ok (.iload_n 1, 1) := by decide +kernel
theorem dX10_clearText_16 : decode cX10_clearText 16 = .ok (.ireturn, 1) := by decide +kernel
theorem dX10_here_0 : decode cX10_here 0 = .ok (.aload_n 0, 1) := by decide +kernel
theorem dX10_here_1 : decode cX10_here 1 = .ok (.getfield 68, 3) := by decide +kernel
theorem dX10_here_4 : decode cX10_here 4 = .ok (.aload_n 0, 1) := by decide +kernel
theorem dX10_here_5 : decode cX10_here 5 = .ok (.getfield 65, 3) := by decide +kernel
theorem dX10_here_8 : decode cX10_here 8 = .ok (.if_icmp .ge 15, 3) := by decide +kernel
theorem dX10_here_11 : decode cX10_here 11 = .ok (.aload_n 0, 1) := by decide +kernel
theorem dX10_here_12 : decode cX10_here 12 = .ok (.getfield 19, 3) := by decide +kernel
theorem dX10_here_15 : decode cX10_here 15 = .ok (.aload_n 0, 1) := by decide +kernel
theorem dX10_here_16 : decode cX10_here 16 = .ok (.getfield 68, 3) := by decide +kernel
theorem dX10_here_19 : decode cX10_here 19 = .ok (.iaload, 1) := by decide +kernel
theorem dX10_here_20 : decode cX10_here 20 = .ok (.goto 4, 3) := by decide +kernel
theorem dX10_here_23 : decode cX10_here 23 = .ok (.iconst (-1), 1) := by decide +kernel
theorem dX10_here_24 : decode cX10_here 24 = .ok (.ireturn, 1) := by decide +kernel
theorem dX10_skip_0 : decode cX10_skip 0 = .ok (.aload_n 0, 1) := by decide +kernel
theorem dX10_skip_1 : decode cX10_skip 1 = .ok (.invokevirtual 71, 3) := by decide +kernel
theorem dX10_skip_4 : decode cX10_skip 4 = .ok (.bipush 32, 2) := by decide +kernel
theorem dX10_skip_6 : decode cX10_skip 6 = .ok (.if_icmp .ne 16, 3) := by decide +kernel
theorem dX10_skip_9 : decode cX10_skip 9 = .ok (.aload_n 0, 1) := by decide +kernel
theorem dX10_skip_10 : decode cX10_skip 10 = .ok (.dup, 1) := by decide +kernel
theorem dX10_skip_11 : decode cX10_skip 11 = .ok (.getfield 68, 3) := by decide +kernel
theorem dX10_skip_14 : decode cX10_skip 14 = .ok (.iconst 1, 1) := by decide +kernel
theorem dX10_skip_15 : decode cX10_skip 15 = .ok (.iadd, 1) := by decide +kernel
theorem dX10_skip_16 : decode cX10_skip 16 = .ok (.putfield 68, 3) := by decide +kernel
theorem dX10_skip_19 : decode cX10_skip 19 = .ok (.goto (-19), 3) := by decide +kernel
theorem dX10_skip_22 : decode cX10_skip 22 = .ok (.return_, 1) := by decide +kernel
theorem dX10_takeNumber_0 : decode cX10_takeNumber 0 = .ok (.aload_n 0, 1) := by decide +kernel
theorem dX10_takeNumber_1 : decode cX10_takeNumber 1 = .ok (.invokevirtual 75, 3) := by decide +kernel
theorem dX10_takeNumber_4 : decode cX10_takeNumber 4 = .ok (.aload_n 0, 1) := by decide +kernel
theorem dX10_takeNumber_5 : decode cX10_takeNumber 5 = .ok (.getfield 68, 3) := by decide +kernel
theorem dX10_takeNumber_8 : decode cX10_takeNumber 8 = .ok (.istore_n 3, 1) := by decide +kernel
theorem dX10_takeNumber_9 : decode cX10_takeNumber 9 = .ok (.iconst 0, 1) := by decide +kernel
theorem dX10_takeNumber_10 : decode cX10_takeNumber 10 = .ok (.istore 4, 2) := by decide +kernel
theorem dX10_takeNumber_12 : decode cX10_takeNumber 12 = .ok (.aload_n 0, 1) := by decide +kernel
theorem dX10_takeNumber_13 : decode cX10_takeNumber 13 = .ok (.invokevirtual 71, 3) := by decide +kernel
theorem dX10_takeNumber_16 : decode cX10_takeNumber 16 = .ok (.bipush 48, 2) := by decide +kernel
theorem dX10_takeNumber_18 : decode cX10_takeNumber 18 = .ok (.bipush 57, 2) := by decide +kernel
theorem dX10_takeNumber_20 : decode cX10_takeNumber 20 = .ok (.invokestatic 39, 3) := by decide +kernel
theorem dX10_takeNumber_23 : decode cX10_takeNumber 23 = .ok (.ifCond .eq 44, 3) := by decide +kernel
theorem dX10_takeNumber_26 : decode cX10_takeNumber 26 = .ok (.iload 4, 2) := by decide +kernel
theorem dX10_takeNumber_28 : decode cX10_takeNumber 28 = .ok (.sipush 10000, 3) := by decide +kernel
theorem dX10_takeNumber_31 : decode cX10_takeNumber 31 = .ok (.if_icmp .ge 19, 3) := by decide +kernel
theorem dX10_takeNumber_34 : decode cX10_takeNumber 34 = .ok (.bipush 10, 2) := by decide +kernel
theorem dX10_takeNumber_36 : decode cX10_takeNumber 36 = .ok (.iload 4, 2) := by decide +kernel
theorem dX10_takeNumber_38 : decode cX10_takeNumber 38 = .ok (.imul, 1) := by decide +kernel
theorem dX10_takeNumber_39 : decode cX10_takeNumber 39 = .ok (.aload_n 0, 1) := by decide +kernel
theorem dX10_takeNumber_40 : decode cX10_takeNumber 40 = .ok (.invokevirtual 71, 3) := by decide +kernel
theorem dX10_takeNumber_43 : decode cX10_takeNumber 43 = .ok (.iadd, 1) := by decide +kernel
theorem dX10_takeNumber_44 : decode cX10_takeNumber 44 = .ok (.bipush 48, 2) := by decide +kernel
theorem dX10_takeNumber_46 : decode cX10_takeNumber 46 = .ok (.isub, 1) := by decide +kernel
theorem dX10_takeNumber_47 : decode cX10_takeNumber 47 = .ok (.goto 5, 3) := by decide +kernel
theorem dX10_takeNumber_50 : decode cX10_takeNumber 50 = .ok (.iload 4, 2) := by decide +kernel
theorem dX10_takeNumber_52 : decode cX10_takeNumber 52 = .ok (.istore 4, 2) := by decide +kernel
theorem dX10_takeNumber_54 : decode cX10_takeNumber 54 = .ok (.aload_n 0, 1) := by decide +kernel
theorem dX10_takeNumber_55 : decode cX10_takeNumber 55 = .ok (.dup, 1) := by decide +kernel
theorem dX10_takeNumber_56 : decode cX10_takeNumber 56 = .ok (.getfield 68, 3) := by decide +kernel
theorem dX10_takeNumber_59 : decode cX10_takeNumber 59 = .ok (.iconst 1, 1) := by decide +kernel
theorem dX10_takeNumber_60 : decode cX10_takeNumber 60 = .ok (.iadd, 1) := by decide +kernel
theorem dX10_takeNumber_61 : decode cX10_takeNumber 61 = .ok (.putfield 68, 3) := by decide +kernel
theorem dX10_takeNumber_64 : decode cX10_takeNumber 64 = .ok (.goto (-52), 3) := by decide +kernel
theorem dX10_takeNumber_67 : decode cX10_takeNumber 67 = .ok (.aload_n 0, 1) := by decide +kernel
theorem dX10_takeNumber_68 : decode cX10_takeNumber 68 = .ok (.getfield 68, 3) := by decide +kernel
theorem dX10_takeNumber_71 : decode cX10_takeNumber 71 = .ok (.iload_n 3, 1) := by decide +kernel
theorem dX10_takeNumber_72 : decode cX10_takeNumber 72 = .ok (.if_icmp .le 38, 3) := by decide +kernel
theorem dX10_takeNumber_75 : decode cX10_takeNumber 75 = .ok (.aload_n 0, 1) := by decide +kernel
theorem dX10_takeNumber_76 : decode cX10_takeNumber 76 = .ok (.getfield 19, 3) := by decide +kernel
theorem dX10_takeNumber_79 : decode cX10_takeNumber 79 = .ok (.iload_n 3, 1) := by decide +kernel
theorem dX10_takeNumber_80 : decode cX10_takeNumber 80 = .ok (.iaload, 1) := by decide +kernel
theorem dX10_takeNumber_81 : decode cX10_takeNumber 81 = .ok (.bipush 48, 2) := by decide +kernel
theorem dX10_takeNumber_83 : decode cX10_takeNumber 83 = .ok (.if_icmp .ne 13, 3) := by decide +kernel
theorem dX10_takeNumber_86 : decode cX10_takeNumber 86 = .ok (.aload_n 0, 1) := by decide +kernel
theorem dX10_takeNumber_87 : decode cX10_takeNumber 87 = .ok (.getfield 68, 3) := by decide +kernel
theorem dX10_takeNumber_90 : decode cX10_takeNumber 90 = .ok (.iload_n 3, 1) := by decide +kernel
theorem dX10_takeNumber_91 : decode cX10_takeNumber 91 = .ok (.iconst 1, 1) := by decide +kernel
theorem dX10_takeNumber_92 : decode cX10_takeNumber 92 = .ok (.iadd, 1) := by decide +kernel
theorem dX10_takeNumber_93 : decode cX10_takeNumber 93 = .ok (.if_icmp .ne 17, 3) := by decide +kernel
theorem dX10_takeNumber_96 : decode cX10_takeNumber 96 = .ok (.iload 4, 2) := by decide +kernel
theorem dX10_takeNumber_98 : decode cX10_takeNumber 98 = .ok (.iload_n 1, 1) := by decide +kernel
theorem dX10_takeNumber_99 : decode cX10_takeNumber 99 = .ok (.iload_n 2, 1) := by decide +kernel
theorem dX10_takeNumber_100 : decode cX10_takeNumber 100 = .ok (.invokestatic 39, 3) := by decide +kernel
theorem dX10_takeNumber_103 : decode cX10_takeNumber 103 = .ok (.ifCond .eq 7, 3) := by decide +kernel
theorem dX10_takeNumber_106 : decode cX10_takeNumber 106 = .ok (.iconst 1, 1) := by decide +kernel
theorem dX10_takeNumber_107 : decode cX10_takeNumber 107 = .ok (.goto 4, 3) := by decide +kernel
theorem dX10_takeNumber_110 : decode cX10_takeNumber 110 = .ok (.iconst 0, 1) := by decide +kernel
theorem dX10_takeNumber_111 : decode cX10_takeNumber 111 = .ok (.istore 5, 2) := by decide +kernel
theorem dX10_takeNumber_113 : decode cX10_takeNumber 113 = .ok (.aload_n 0, 1) := by decide +kernel
theorem dX10_takeNumber_114 : decode cX10_takeNumber 114 = .ok (.iload 5, 2) := by decide +kernel
theorem dX10_takeNumber_116 : decode cX10_takeNumber 116 = .ok (.ifCond .ne 12, 3) := by decide +kernel
theorem dX10_takeNumber_119 : decode cX10_takeNumber 119 = .ok (.aload_n 0, 1) := by decide +kernel
theorem dX10_takeNumber_120 : decode cX10_takeNumber 120 = .ok (.getfield 78, 3) := by decide +kernel
theorem dX10_takeNumber_123 : decode cX10_takeNumber 123 = .ok (.ldc 81, 2) := by decide +kernel
theorem dX10_takeNumber_125 : decode cX10_takeNumber 125 = .ok (.if_icmp .eq 10, 3) := by decide +kernel
theorem dX10_takeNumber_128 : decode cX10_takeNumber 128 = .ok (.aload_n 0, 1) := by decide +kernel
theorem dX10_takeNumber_129 : decode cX10_takeNumber 129 = .ok (.getfield 78, 3) := by decide +kernel
theorem dX10_takeNumber_132 : decode cX10_takeNumber 132 = .ok (.goto 4, 3) := by decide +kernel
theorem dX10_takeNumber_135 : decode cX10_takeNumber 135 = .ok (.iload_n 3, 1) := by decide +kernel
theorem dX10_takeNumber_136 : decode cX10_takeNumber 136 = .ok (.putfield 78, 3) := by decide +kernel
theorem dX10_takeNumber_139 : decode cX10_takeNumber 139 = .ok (.iload 4, 2) := by decide +kernel
theorem dX10_takeNumber_141 : decode cX10_takeNumber 141 = .ok (.ireturn, 1) := by decide +kernel
theorem dX10_readPoint_0 : decode cX10_readPoint 0 = .ok (.aload_n 0, 1) := by decide +kernel
theorem dX10_readPoint_1 : decode cX10_readPoint 1 = .ok (.aload_n 0, 1) := by decide +kernel
theorem dX10_readPoint_2 : decode cX10_readPoint 2 = .ok (.getfield 7, 3) := by decide +kernel
theorem dX10_readPoint_5 : decode cX10_readPoint 5 = .ok (.bipush 32, 2) := by decide +kernel
theorem dX10_readPoint_7 : decode cX10_readPoint 7 = .ok (.iaload, 1) := by decide +kernel
theorem dX10_readPoint_8 : decode cX10_readPoint 8 = .ok (.bipush 8, 2) := by decide +kernel
theorem dX10_readPoint_10 : decode cX10_readPoint 10 = .ok (.if_icmp .ne 10, 3) := by decide +kernel
theorem dX10_readPoint_13 : decode cX10_readPoint 13 = .ok (.aload_n 0, 1) := by decide +kernel
theorem dX10_readPoint_14 : decode cX10_readPoint 14 = .ok (.getfield 68, 3) := by decide +kernel
theorem dX10_readPoint_17 : decode cX10_readPoint 17 = .ok (.goto 7, 3) := by decide +kernel
theorem dX10_readPoint_20 : decode cX10_readPoint 20 = .ok (.aload_n 0, 1) := by decide +kernel
theorem dX10_readPoint_21 : decode cX10_readPoint 21 = .ok (.getfield 78, 3) := by decide +kernel
theorem dX10_readPoint_24 : decode cX10_readPoint 24 = .ok (.putfield 78, 3) := by decide +kernel
theorem dX10_readPoint_27 : decode cX10_readPoint 27 = .ok (.aload_n 0, 1) := by decide +kernel
theorem dX10_readPoint_28 : decode cX10_readPoint 28 = .ok (.iload_n 1, 1) := by decide +kernel
theorem dX10_readPoint_29 : decode cX10_readPoint 29 = .ok (.iconst 1, 1) := by decide +kernel
theorem dX10_readPoint_30 : decode cX10_readPoint 30 = .ok (.iadd, 1) := by decide +kernel
theorem dX10_readPoint_31 : decode cX10_readPoint 31 = .ok (.sipush 400, 3) := by decide +kernel
theorem dX10_readPoint_34 : decode cX10_readPoint 34 = .ok (.invokevirtual 82, 3) := by decide +kernel
theorem dX10_readPoint_37 : decode cX10_readPoint 37 = .ok (.istore_n 2, 1) := by decide +kernel
theorem dX10_readPoint_38 : decode cX10_readPoint 38 = .ok (.aload_n 0, 1) := by decide +kernel
theorem dX10_readPoint_39 : decode cX10_readPoint 39 = .ok (.iconst 0, 1) := by decide +kernel
theorem dX10_readPoint_40 : decode cX10_readPoint 40 = .ok (.sipush 3000, 3) := by decide +kernel
theorem dX10_readPoint_43 : decode cX10_readPoint 43 = .ok (.invokevirtual 82, 3) := by decide +kernel
theorem dX10_readPoint_46 : decode cX10_readPoint 46 = .ok (.istore_n 3, 1) := by decide +kernel
theorem dX10_readPoint_47 : decode cX10_readPoint 47 = .ok (.aload_n 0, 1) := by decide +kernel
theorem dX10_readPoint_48 : decode cX10_readPoint 48 = .ok (.invokevirtual 75, 3) := by decide +kernel
theorem dX10_readPoint_51 : decode cX10_readPoint 51 = .ok (.aload_n 0, 1) := by decide +kernel
theorem dX10_readPoint_52 : decode cX10_readPoint 52 = .ok (.aload_n 0, 1) := by decide +kernel
theorem dX10_readPoint_53 : decode cX10_readPoint 53 = .ok (.getfield 78, 3) := by decide +kernel
theorem dX10_readPoint_56 : decode cX10_readPoint 56 = .ok (.ldc 81, 2) := by decide +kernel
theorem dX10_readPoint_58 : decode cX10_readPoint 58 = .ok (.if_icmp .ne 19, 3) := by decide +kernel
theorem dX10_readPoint_61 : decode cX10_readPoint 61 = .ok (.aload_n 0, 1) := by decide +kernel
theorem dX10_readPoint_62 : decode cX10_readPoint 62 = .ok (.invokevirtual 71, 3) := by decide +kernel
theorem dX10_readPoint_65 : decode cX10_readPoint 65 = .ok (.bipush 59, 2) := by decide +kernel
theorem dX10_readPoint_67 : decode cX10_readPoint 67 = .ok (.if_icmp .eq 10, 3) := by decide +kernel
theorem dX10_readPoint_70 : decode cX10_readPoint 70 = .ok (.aload_n 0, 1) := by decide +kernel
theorem dX10_readPoint_71 : decode cX10_readPoint 71 = .ok (.getfield 68, 3) := by decide +kernel
theorem dX10_readPoint_74 : decode cX10_readPoint 74 = .ok (.goto 7, 3) := by decide +kernel
theorem dX10_readPoint_77 : decode cX10_readPoint 77 = .ok (.aload_n 0, 1) := by decide +kernel
theorem dX10_readPoint_78 : decode cX10_readPoint 78 = .ok (.getfield 78, 3) := by decide +kernel
theorem dX10_readPoint_81 : decode cX10_readPoint 81 = .ok (.putfield 78, 3) := by decide +kernel
theorem dX10_readPoint_84 : decode cX10_readPoint 84 = .ok (.aload_n 0, 1) := by decide +kernel
theorem dX10_readPoint_85 : decode cX10_readPoint 85 = .ok (.dup, 1) := by decide +kernel
theorem dX10_readPoint_86 : decode cX10_readPoint 86 = .ok (.getfield 68, 3) := by decide +kernel
theorem dX10_readPoint_89 : decode cX10_readPoint 89 = .ok (.iconst 1, 1) := by decide +kernel
theorem dX10_readPoint_90 : decode cX10_readPoint 90 = .ok (.iadd, 1) := by decide +kernel
theorem dX10_readPoint_91 : decode cX10_readPoint 91 = .ok (.putfield 68, 3) := by decide +kernel
theorem dX10_readPoint_94 : decode cX10_readPoint 94 = .ok (.aload_n 0, 1) := by decide +kernel
theorem dX10_readPoint_95 : decode cX10_readPoint 95 = .ok (.getfield 78, 3) := by decide +kernel
theorem dX10_readPoint_98 : decode cX10_readPoint 98 = .ok (.ldc 81, 2) := by decide +kernel
theorem dX10_readPoint_100 : decode cX10_readPoint 100 = .ok (.if_icmp .ne 13, 3) := by decide +kernel
theorem dX10_readPoint_103 : decode cX10_readPoint 103 = .ok (.aload_n 0, 1) := by decide +kernel
theorem dX10_readPoint_104 : decode cX10_readPoint 104 = .ok (.bipush 33, 2) := by decide +kernel
theorem dX10_readPoint_106 : decode cX10_readPoint 106 = .ok (.bipush 32, 2) := by decide +kernel
theorem dX10_readPoint_108 : decode cX10_readPoint 108 = .ok (.iload_n 2, 1) := by decide +kernel
theorem dX10_readPoint_109 : decode cX10_readPoint 109 = .ok (.iload_n 3, 1) := by decide +kernel
theorem dX10_readPoint_110 : decode cX10_readPoint 110 = .ok (.invokevirtual 57, 3) := by decide +kernel
theorem dX10_readPoint_113 : decode cX10_readPoint 113 = .ok (.return_, 1) := by decide +kernel
theorem dX10_load_0 : decode cX10_load 0 = .ok (.aload_n 0, 1) := by decide +kernel
theorem dX10_load_1 : decode cX10_load 1 = .ok (.iconst 0, 1) := by decide +kernel
theorem dX10_load_2 : decode cX10_load 2 = .ok (.putfield 25, 3) := by decide +kernel
theorem dX10_load_5 : decode cX10_load 5 = .ok (.aload_n 0, 1) := by decide +kernel
theorem dX10_load_6 : decode cX10_load 6 = .ok (.invokevirtual 85, 3) := by decide +kernel
theorem dX10_load_9 : decode cX10_load 9 = .ok (.aload_n 0, 1) := by decide +kernel
theorem dX10_load_10 : decode cX10_load 10 = .ok (.getfield 7, 3) := by decide +kernel
theorem dX10_load_13 : decode cX10_load 13 = .ok (.bipush 32, 2) := by decide +kernel
theorem dX10_load_15 : decode cX10_load 15 = .ok (.iconst 0, 1) := by decide +kernel
theorem dX10_load_16 : decode cX10_load 16 = .ok (.iastore, 1) := by decide +kernel
theorem dX10_load_17 : decode cX10_load 17 = .ok (.aload_n 0, 1) := by decide +kernel
theorem dX10_load_18 : decode cX10_load 18 = .ok (.iconst 0, 1) := by decide +kernel
theorem dX10_load_19 : decode cX10_load 19 = .ok (.putfield 68, 3) := by decide +kernel
theorem dX10_load_22 : decode cX10_load 22 = .ok (.aload_n 0, 1) := by decide +kernel
theorem dX10_load_23 : decode cX10_load 23 = .ok (.ldc 81, 2) := by decide +kernel
theorem dX10_load_25 : decode cX10_load 25 = .ok (.putfield 78, 3) := by decide +kernel
theorem dX10_load_28 : decode cX10_load 28 = .ok (.aload_n 0, 1) := by decide +kernel
theorem dX10_load_29 : decode cX10_load 29 = .ok (.invokevirtual 75, 3) := by decide +kernel
theorem dX10_load_32 : decode cX10_load 32 = .ok (.aload_n 0, 1) := by decide +kernel
theorem dX10_load_33 : decode cX10_load 33 = .ok (.getfield 78, 3) := by decide +kernel
theorem dX10_load_36 : decode cX10_load 36 = .ok (.ldc 81, 2) := by decide +kernel
theorem dX10_load_38 : decode cX10_load 38 = .ok (.if_icmp .ne 58, 3) := by decide +kernel
theorem dX10_load_41 : decode cX10_load 41 = .ok (.aload_n 0, 1) := by decide +kernel
theorem dX10_load_42 : decode cX10_load 42 = .ok (.getfield 68, 3) := by decide +kernel
theorem dX10_load_45 : decode cX10_load 45 = .ok (.aload_n 0, 1) := by decide +kernel
theorem dX10_load_46 : decode cX10_load 46 = .ok (.getfield 65, 3) := by decide +kernel
theorem dX10_load_49 : decode cX10_load 49 = .ok (.if_icmp .ge 47, 3) := by decide +kernel
theorem dX10_load_52 : decode cX10_load 52 = .ok (.aload_n 0, 1) := by decide +kernel
theorem dX10_load_53 : decode cX10_load 53 = .ok (.aload_n 0, 1) := by decide +kernel
theorem dX10_load_54 : decode cX10_load 54 = .ok (.getfield 7, 3) := by decide +kernel
theorem dX10_load_57 : decode cX10_load 57 = .ok (.bipush 32, 2) := by decide +kernel
theorem dX10_load_59 : decode cX10_load 59 = .ok (.iaload, 1) := by decide +kernel
theorem dX10_load_60 : decode cX10_load 60 = .ok (.ifCond .ne 7, 3) := by decide +kernel
theorem dX10_load_63 : decode cX10_load 63 = .ok (.iconst (-1), 1) := by decide +kernel
theorem dX10_load_64 : decode cX10_load 64 = .ok (.goto 22, 3) := by decide +kernel
theorem dX10_load_67 : decode cX10_load 67 = .ok (.aload_n 0, 1) := by decide +kernel
theorem dX10_load_68 : decode cX10_load 68 = .ok (.getfield 7, 3) := by decide +kernel
theorem dX10_load_71 : decode cX10_load 71 = .ok (.bipush 33, 2) := by decide +kernel
theorem dX10_load_73 : decode cX10_load 73 = .ok (.iconst 2, 1) := by decide +kernel
theorem dX10_load_74 : decode cX10_load 74 = .ok (.aload_n 0, 1) := by decide +kernel
theorem dX10_load_75 : decode cX10_load 75 = .ok (.getfield 7, 3) := by decide +kernel
theorem dX10_load_78 : decode cX10_load 78 = .ok (.bipush 32, 2) := by decide +kernel
theorem dX10_load_80 : decode cX10_load 80 = .ok (.iaload, 1) := by decide +kernel
theorem dX10_load_81 : decode cX10_load 81 = .ok (.imul, 1) := by decide +kernel
theorem dX10_load_82 : decode cX10_load 82 = .ok (.iadd, 1) := by decide +kernel
theorem dX10_load_83 : decode cX10_load 83 = .ok (.iconst 2, 1) := by decide +kernel
theorem dX10_load_84 : decode cX10_load 84 = .ok (.isub, 1) := by decide +kernel
theorem dX10_load_85 : decode cX10_load 85 = .ok (.iaload, 1) := by decide +kernel
theorem dX10_load_86 : decode cX10_load 86 = .ok (.invokevirtual 88, 3) := by decide +kernel
theorem dX10_load_89 : decode cX10_load 89 = .ok (.aload_n 0, 1) := by decide +kernel
theorem dX10_load_90 : decode cX10_load 90 = .ok (.invokevirtual 75, 3) := by decide +kernel
theorem dX10_load_93 : decode cX10_load 93 = .ok (.goto (-61), 3) := by decide +kernel
theorem dX10_load_96 : decode cX10_load 96 = .ok (.aload_n 0, 1) := by decide +kernel
theorem dX10_load_97 : decode cX10_load 97 = .ok (.getfield 7, 3) := by decide +kernel
theorem dX10_load_100 : decode cX10_load 100 = .ok (.bipush 32, 2) := by decide +kernel
theorem dX10_load_102 : decode cX10_load 102 = .ok (.iaload, 1) := by decide +kernel
theorem dX10_load_103 : decode cX10_load 103 = .ok (.istore_n 1, 1) := by decide +kernel
theorem dX10_load_104 : decode cX10_load 104 = .ok (.aload_n 0, 1) := by decide +kernel
theorem dX10_load_105 : decode cX10_load 105 = .ok (.getfield 78, 3) := by decide +kernel
theorem dX10_load_108 : decode cX10_load 108 = .ok (.ldc 81, 2) := by decide +kernel
theorem dX10_load_110 : decode cX10_load 110 = .ok (.if_icmp .eq 15, 3) := by decide +kernel
theorem dX10_load_113 : decode cX10_load 113 = .ok (.aload_n 0, 1) := by decide +kernel
theorem dX10_load_114 : decode cX10_load 114 = .ok (.invokevirtual 92, 3) := by decide +kernel
theorem dX10_load_117 : decode cX10_load 117 = .ok (.ldc 95, 2) := by decide +kernel
theorem dX10_load_119 : decode cX10_load 119 = .ok (.aload_n 0, 1) := by decide +kernel
theorem dX10_load_120 : decode cX10_load 120 = .ok (.getfield 78, 3) := by decide +kernel
theorem dX10_load_123 : decode cX10_load 123 = .ok (.isub, 1) := by decide +kernel
theorem dX10_load_124 : decode cX10_load 124 = .ok (.ireturn, 1) := by decide +kernel
theorem dX10_load_125 : decode cX10_load 125 = .ok (.iconst 0, 1) := by decide +kernel
theorem dX10_load_126 : decode cX10_load 126 = .ok (.istore_n 2, 1) := by decide +kernel
theorem dX10_load_127 : decode cX10_load 127 = .ok (.iload_n 2, 1) := by decide +kernel
theorem dX10_load_128 : decode cX10_load 128 = .ok (.bipush 16, 2) := by decide +kernel
theorem dX10_load_130 : decode cX10_load 130 = .ok (.if_icmp .ge 24, 3) := by decide +kernel
theorem dX10_load_133 : decode cX10_load 133 = .ok (.aload_n 0, 1) := by decide +kernel
theorem dX10_load_134 : decode cX10_load 134 = .ok (.getfield 22, 3) := by decide +kernel
theorem dX10_load_137 : decode cX10_load 137 = .ok (.iload_n 2, 1) := by decide +kernel
theorem dX10_load_138 : decode cX10_load 138 = .ok (.aload_n 0, 1) := by decide +kernel
theorem dX10_load_139 : decode cX10_load 139 = .ok (.getfield 7, 3) := by decide +kernel
theorem dX10_load_142 : decode cX10_load 142 = .ok (.bipush 33, 2) := by decide +kernel
theorem dX10_load_144 : decode cX10_load 144 = .ok (.iload_n 2, 1) := by decide +kernel
theorem dX10_load_145 : decode cX10_load 145 = .ok (.iadd, 1) := by decide +kernel
theorem dX10_load_146 : decode cX10_load 146 = .ok (.iaload, 1) := by decide +kernel
theorem dX10_load_147 : decode cX10_load 147 = .ok (.iastore, 1) := by decide +kernel
theorem dX10_load_148 : decode cX10_load 148 = .ok (.iinc 2 1, 3) := by decide +kernel
theorem dX10_load_151 : decode cX10_load 151 = .ok (.goto (-24), 3) := by decide +kernel
theorem dX10_load_154 : decode cX10_load 154 = .ok (.aload_n 0, 1) := by decide +kernel
theorem dX10_load_155 : decode cX10_load 155 = .ok (.invokevirtual 92, 3) := by decide +kernel
theorem dX10_load_158 : decode cX10_load 158 = .ok (.aload_n 0, 1) := by decide +kernel
theorem dX10_load_159 : decode cX10_load 159 = .ok (.invokevirtual 36, 3) := by decide +kernel
theorem dX10_load_162 : decode cX10_load 162 = .ok (.aload_n 0, 1) := by decide +kernel
theorem dX10_load_163 : decode cX10_load 163 = .ok (.getfield 7, 3) := by decide +kernel
theorem dX10_load_166 : decode cX10_load 166 = .ok (.bipush 32, 2) := by decide +kernel
theorem dX10_load_168 : decode cX10_load 168 = .ok (.iload_n 1, 1) := by decide +kernel
theorem dX10_load_169 : decode cX10_load 169 = .ok (.iastore, 1) := by decide +kernel
theorem dX10_load_170 : decode cX10_load 170 = .ok (.iconst 0, 1) := by decide +kernel
theorem dX10_load_171 : decode cX10_load 171 = .ok (.istore_n 2, 1) := by decide +kernel
theorem dX10_load_172 : decode cX10_load 172 = .ok (.iload_n 2, 1) := by decide +kernel
theorem dX10_load_173 : decode cX10_load 173 = .ok (.bipush 16, 2) := by decide +kernel
theorem dX10_load_175 : decode cX10_load 175 = .ok (.if_icmp .ge 24, 3) := by decide +kernel
theorem dX10_load_178 : decode cX10_load 178 = .ok (.aload_n 0, 1) := by decide +kernel
theorem dX10_load_179 : decode cX10_load 179 = .ok (.getfield 7, 3) := by decide +kernel
theorem dX10_load_182 : decode cX10_load 182 = .ok (.bipush 33, 2) := by decide +kernel
theorem dX10_load_184 : decode cX10_load 184 = .ok (.iload_n 2, 1) := by decide +kernel
theorem dX10_load_185 : decode cX10_load 185 = .ok (.iadd, 1) := by decide +kernel
theorem dX10_load_186 : decode cX10_load 186 = .ok (.aload_n 0, 1) := by decide +kernel
theorem dX10_load_187 : decode cX10_load 187 = .ok (.getfield 22, 3) := by decide +kernel
theorem dX10_load_190 : decode cX10_load 190 = .ok (.iload_n 2, 1) := by decide +kernel
theorem dX10_load_191 : decode cX10_load 191 = .ok (.iaload, 1) := by decide +kernel
theorem dX10_load_192 : decode cX10_load 192 = .ok (.iastore, 1) := by decide +kernel
theorem dX10_load_193 : decode cX10_load 193 = .ok (.iinc 2 1, 3) := by decide +kernel
theorem dX10_load_196 : decode cX10_load 196 = .ok (.goto (-24), 3) := by decide +kernel
theorem dX10_load_199 : decode cX10_load 199 = .ok (.aload_n 0, 1) := by decide +kernel
theorem dX10_load_200 : decode cX10_load 200 = .ok (.iconst 0, 1) := by decide +kernel
theorem dX10_load_201 : decode cX10_load 201 = .ok (.putfield 65, 3) := by decide +kernel
theorem dX10_load_204 : decode cX10_load 204 = .ok (.iload_n 1, 1) := by decide +kernel
theorem dX10_load_205 : decode cX10_load 205 = .ok (.ireturn, 1) := by decide +kernel
theorem dX10_charge_0 : decode cX10_charge 0 = .ok (.aload_n 0, 1) := by decide +kernel
theorem dX10_charge_1 : decode cX10_charge 1 = .ok (.iconst 0, 1) := by decide +kernel
theorem dX10_charge_2 : decode cX10_charge 2 = .ok (.putfield 25, 3) := by decide +kernel
theorem dX10_charge_5 : decode cX10_charge 5 = .ok (.iload_n 1, 1) := by decide +kernel
theorem dX10_charge_6 : decode cX10_charge 6 = .ok (.bipush 100, 2) := by decide +kernel
theorem dX10_charge_8 : decode cX10_charge 8 = .ok (.sipush 1000, 3) := by decide +kernel
theorem dX10_charge_11 : decode cX10_charge 11 = .ok (.invokestatic 39, 3) := by decide +kernel
theorem dX10_charge_14 : decode cX10_charge 14 = .ok (.ifCond .ne 6, 3) := by decide +kernel
theorem dX10_charge_17 : decode cX10_charge 17 = .ok (.ldc 47, 2) := by decide +kernel
theorem dX10_charge_19 : decode cX10_charge 19 = .ok (.ireturn, 1) := by decide +kernel
theorem dX10_charge_20 : decode cX10_charge 20 = .ok (.aload_n 0, 1) := by decide +kernel
theorem dX10_charge_21 : decode cX10_charge 21 = .ok (.getfield 7, 3) := by decide +kernel
theorem dX10_charge_24 : decode cX10_charge 24 = .ok (.iconst 1, 1) := by decide +kernel
theorem dX10_charge_25 : decode cX10_charge 25 = .ok (.iaload, 1) := by decide +kernel
theorem dX10_charge_26 : decode cX10_charge 26 = .ok (.ifCond .eq 6, 3) := by decide +kernel
theorem dX10_charge_29 : decode cX10_charge 29 = .ok (.ldc 61, 2) := by decide +kernel
theorem dX10_charge_31 : decode cX10_charge 31 = .ok (.ireturn, 1) := by decide +kernel
theorem dX10_charge_32 : decode cX10_charge 32 = .ok (.aload_n 0, 1) := by decide +kernel
theorem dX10_charge_33 : decode cX10_charge 33 = .ok (.invokevirtual 36, 3) := by decide +kernel
theorem dX10_charge_36 : decode cX10_charge 36 = .ok (.bipush 16, 2) := by decide +kernel
theorem dX10_charge_38 : decode cX10_charge 38 = .ok (.istore_n 2, 1) := by decide +kernel
theorem dX10_charge_39 : decode cX10_charge 39 = .ok (.iload_n 2, 1) := by decide +kernel
theorem dX10_charge_40 : decode cX10_charge 40 = .ok (.bipush 32, 2) := by decide +kernel
theorem dX10_charge_42 : decode cX10_charge 42 = .ok (.if_icmp .ge 16, 3) := by decide +kernel
theorem dX10_charge_45 : decode cX10_charge 45 = .ok (.aload_n 0, 1) := by decide +kernel
theorem dX10_charge_46 : decode cX10_charge 46 = .ok (.getfield 7, 3) := by decide +kernel
theorem dX10_charge_49 : decode cX10_charge 49 = .ok (.iload_n 2, 1) := by decide +kernel
theorem dX10_charge_50 : decode cX10_charge 50 = .ok (.iconst 0, 1) := by decide +kernel
theorem dX10_charge_51 : decode cX10_charge 51 = .ok (.iastore, 1) := by decide +kernel
theorem dX10_charge_52 : decode cX10_charge 52 = .ok (.iinc 2 1, 3) := by decide +kernel
theorem dX10_charge_55 : decode cX10_charge 55 = .ok (.goto (-16), 3) := by decide +kernel
theorem dX10_charge_58 : decode cX10_charge 58 = .ok (.aload_n 0, 1) := by decide +kernel
theorem dX10_charge_59 : decode cX10_charge 59 = .ok (.getfield 7, 3) := by decide +kernel
theorem dX10_charge_62 : decode cX10_charge 62 = .ok (.iconst 1, 1) := by decide +kernel
theorem dX10_charge_63 : decode cX10_charge 63 = .ok (.iconst 1, 1) := by decide +kernel
theorem dX10_charge_64 : decode cX10_charge 64 = .ok (.iastore, 1) := by decide +kernel
theorem dX10_charge_65 : decode cX10_charge 65 = .ok (.aload_n 0, 1) := by decide +kernel
theorem dX10_charge_66 : decode cX10_charge 66 = .ok (.getfield 7, 3) := by decide +kernel
theorem dX10_charge_69 : decode cX10_charge 69 = .ok (.bipush 16, 2) := by decide +kernel
theorem dX10_charge_71 : decode cX10_charge 71 = .ok (.aload_n 0, 1) := by decide +kernel
theorem dX10_charge_72 : decode cX10_charge 72 = .ok (.getfield 7, 3) := by decide +kernel
theorem dX10_charge_75 : decode cX10_charge 75 = .ok (.iconst 3, 1) := by decide +kernel
theorem dX10_charge_76 : decode cX10_charge 76 = .ok (.iaload, 1) := by decide +kernel
theorem dX10_charge_77 : decode cX10_charge 77 = .ok (.iastore, 1) := by decide +kernel
theorem dX10_charge_78 : decode cX10_charge 78 = .ok (.aload_n 0, 1) := by decide +kernel
theorem dX10_charge_79 : decode cX10_charge 79 = .ok (.getfield 7, 3) := by decide +kernel
theorem dX10_charge_82 : decode cX10_charge 82 = .ok (.bipush 25, 2) := by decide +kernel
theorem dX10_charge_84 : decode cX10_charge 84 = .ok (.aload_n 0, 1) := by decide +kernel
theorem dX10_charge_85 : decode cX10_charge 85 = .ok (.getfield 7, 3) := by decide +kernel
theorem dX10_charge_88 : decode cX10_charge 88 = .ok (.iconst 3, 1) := by decide +kernel
theorem dX10_charge_89 : decode cX10_charge 89 = .ok (.iaload, 1) := by decide +kernel
theorem dX10_charge_90 : decode cX10_charge 90 = .ok (.iastore, 1) := by decide +kernel
theorem dX10_charge_91 : decode cX10_charge 91 = .ok (.aload_n 0, 1) := by decide +kernel
theorem dX10_charge_92 : decode cX10_charge 92 = .ok (.getfield 7, 3) := by decide +kernel
theorem dX10_charge_95 : decode cX10_charge 95 = .ok (.bipush 17, 2) := by decide +kernel
theorem dX10_charge_97 : decode cX10_charge 97 = .ok (.iload_n 1, 1) := by decide +kernel
theorem dX10_charge_98 : decode cX10_charge 98 = .ok (.iastore, 1) := by decide +kernel
theorem dX10_charge_99 : decode cX10_charge 99 = .ok (.aload_n 0, 1) := by decide +kernel
theorem dX10_charge_100 : decode cX10_charge 100 = .ok (.getfield 7, 3) := by decide +kernel
theorem dX10_charge_103 : decode cX10_charge 103 = .ok (.bipush 23, 2) := by decide +kernel
theorem dX10_charge_105 : decode cX10_charge 105 = .ok (.ldc 81, 2) := by decide +kernel
theorem dX10_charge_107 : decode cX10_charge 107 = .ok (.iastore, 1) := by decide +kernel
theorem dX10_charge_108 : decode cX10_charge 108 = .ok (.aload_n 0, 1) := by decide +kernel
theorem dX10_charge_109 : decode cX10_charge 109 = .ok (.getfield 7, 3) := by decide +kernel
theorem dX10_charge_112 : decode cX10_charge 112 = .ok (.bipush 24, 2) := by decide +kernel
theorem dX10_charge_114 : decode cX10_charge 114 = .ok (.ldc 81, 2) := by decide +kernel
theorem dX10_charge_116 : decode cX10_charge 116 = .ok (.iastore, 1) := by decide +kernel
theorem dX10_charge_117 : decode cX10_charge 117 = .ok (.aload_n 0, 1) := by decide +kernel
theorem dX10_charge_118 : decode cX10_charge 118 = .ok (.getfield 7, 3) := by decide +kernel
theorem dX10_charge_121 : decode cX10_charge 121 = .ok (.bipush 13, 2) := by decide +kernel
theorem dX10_charge_123 : decode cX10_charge 123 = .ok (.iconst 0, 1) := by decide +kernel
theorem dX10_charge_124 : decode cX10_charge 124 = .ok (.iastore, 1) := by decide +kernel
theorem dX10_charge_125 : decode cX10_charge 125 = .ok (.aload_n 0, 1) := by decide +kernel
theorem dX10_charge_126 : decode cX10_charge 126 = .ok (.getfield 7, 3) := by decide +kernel
theorem dX10_charge_129 : decode cX10_charge 129 = .ok (.iconst 2, 1) := by decide +kernel
theorem dX10_charge_130 : decode cX10_charge 130 = .ok (.iaload, 1) := by decide +kernel
theorem dX10_charge_131 : decode cX10_charge 131 = .ok (.ireturn, 1) := by decide +kernel
theorem dX10_drop_0 : decode cX10_drop 0 = .ok (.aload_n 0, 1) := by decide +kernel
theorem dX10_drop_1 : decode cX10_drop 1 = .ok (.iconst 0, 1) := by decide +kernel
theorem dX10_drop_2 : decode cX10_drop 2 = .ok (.putfield 25, 3) := by decide +kernel
theorem dX10_drop_5 : decode cX10_drop 5 = .ok (.aload_n 0, 1) := by decide +kernel
theorem dX10_drop_6 : decode cX10_drop 6 = .ok (.invokevirtual 96, 3) := by decide +kernel
theorem dX10_drop_9 : decode cX10_drop 9 = .ok (.ifCond .ne 6, 3) := by decide +kernel
theorem dX10_drop_12 : decode cX10_drop 12 = .ok (.ldc 61, 2) := by decide +kernel
theorem dX10_drop_14 : decode cX10_drop 14 = .ok (.ireturn, 1) := by decide +kernel
theorem dX10_drop_15 : decode cX10_drop 15 = .ok (.aload_n 0, 1) := by decide +kernel
theorem dX10_drop_16 : decode cX10_drop 16 = .ok (.invokevirtual 36, 3) := by decide +kernel
theorem dX10_drop_19 : decode cX10_drop 19 = .ok (.aload_n 0, 1) := by decide +kernel
theorem dX10_drop_20 : decode cX10_drop 20 = .ok (.getfield 7, 3) := by decide +kernel
theorem dX10_drop_23 : decode cX10_drop 23 = .ok (.iconst 1, 1) := by decide +kernel
theorem dX10_drop_24 : decode cX10_drop 24 = .ok (.iconst 2, 1) := by decide +kernel
theorem dX10_drop_25 : decode cX10_drop 25 = .ok (.iastore, 1) := by decide +kernel
theorem dX10_drop_26 : decode cX10_drop 26 = .ok (.aload_n 0, 1) := by decide +kernel
theorem dX10_drop_27 : decode cX10_drop 27 = .ok (.getfield 7, 3) := by decide +kernel
theorem dX10_drop_30 : decode cX10_drop 30 = .ok (.bipush 62, 2) := by decide +kernel
theorem dX10_drop_32 : decode cX10_drop 32 = .ok (.dup2, 1) := by decide +kernel
theorem dX10_drop_33 : decode cX10_drop 33 = .ok (.iaload, 1) := by decide +kernel
theorem dX10_drop_34 : decode cX10_drop 34 = .ok (.iconst 1, 1) := by decide +kernel
theorem dX10_drop_35 : decode cX10_drop 35 = .ok (.iadd, 1) := by decide +kernel
theorem dX10_drop_36 : decode cX10_drop 36 = .ok (.iastore, 1) := by decide +kernel
theorem dX10_drop_37 : decode cX10_drop 37 = .ok (.bipush 111, 2) := by decide +kernel
theorem dX10_drop_39 : decode cX10_drop 39 = .ok (.istore_n 1, 1) := by decide +kernel
theorem dX10_drop_40 : decode cX10_drop 40 = .ok (.iload_n 1, 1) := by decide +kernel
theorem dX10_drop_41 : decode cX10_drop 41 = .ok (.bipush 70, 2) := by decide +kernel
theorem dX10_drop_43 : decode cX10_drop 43 = .ok (.if_icmp .lt 24, 3) := by decide +kernel
theorem dX10_drop_46 : decode cX10_drop 46 = .ok (.aload_n 0, 1) := by decide +kernel
theorem dX10_drop_47 : decode cX10_drop 47 = .ok (.getfield 7, 3) := by decide +kernel
theorem dX10_drop_50 : decode cX10_drop 50 = .ok (.iload_n 1, 1) := by decide +kernel
theorem dX10_drop_51 : decode cX10_drop 51 = .ok (.aload_n 0, 1) := by decide +kernel
theorem dX10_drop_52 : decode cX10_drop 52 = .ok (.getfield 7, 3) := by decide +kernel
theorem dX10_drop_55 : decode cX10_drop 55 = .ok (.iload_n 1, 1) := by decide +kernel
theorem dX10_drop_56 : decode cX10_drop 56 = .ok (.bipush 6, 2) := by decide +kernel
theorem dX10_drop_58 : decode cX10_drop 58 = .ok (.isub, 1) := by decide +kernel
theorem dX10_drop_59 : decode cX10_drop 59 = .ok (.iaload, 1) := by decide +kernel
theorem dX10_drop_60 : decode cX10_drop 60 = .ok (.iastore, 1) := by decide +kernel
theorem dX10_drop_61 : decode cX10_drop 61 = .ok (.iinc 1 (-1), 3) := by decide +kernel
theorem dX10_drop_64 : decode cX10_drop 64 = .ok (.goto (-24), 3) := by decide +kernel
theorem dX10_drop_67 : decode cX10_drop 67 = .ok (.aload_n 0, 1) := by decide +kernel
theorem dX10_drop_68 : decode cX10_drop 68 = .ok (.getfield 7, 3) := by decide +kernel
theorem dX10_drop_71 : decode cX10_drop 71 = .ok (.bipush 64, 2) := by decide +kernel
theorem dX10_drop_73 : decode cX10_drop 73 = .ok (.aload_n 0, 1) := by decide +kernel
theorem dX10_drop_74 : decode cX10_drop 74 = .ok (.getfield 7, 3) := by decide +kernel
theorem dX10_drop_77 : decode cX10_drop 77 = .ok (.bipush 62, 2) := by decide +kernel
theorem dX10_drop_79 : decode cX10_drop 79 = .ok (.iaload, 1) := by decide +kernel
theorem dX10_drop_80 : decode cX10_drop 80 = .ok (.iastore, 1) := by decide +kernel
theorem dX10_drop_81 : decode cX10_drop 81 = .ok (.aload_n 0, 1) := by decide +kernel
theorem dX10_drop_82 : decode cX10_drop 82 = .ok (.getfield 7, 3) := by decide +kernel
theorem dX10_drop_85 : decode cX10_drop 85 = .ok (.bipush 65, 2) := by decide +kernel
theorem dX10_drop_87 : decode cX10_drop 87 = .ok (.aload_n 0, 1) := by decide +kernel
theorem dX10_drop_88 : decode cX10_drop 88 = .ok (.getfield 7, 3) := by decide +kernel
theorem dX10_drop_91 : decode cX10_drop 91 = .ok (.bipush 18, 2) := by decide +kernel
theorem dX10_drop_93 : decode cX10_drop 93 = .ok (.iaload, 1) := by decide +kernel
theorem dX10_drop_94 : decode cX10_drop 94 = .ok (.iastore, 1) := by decide +kernel
theorem dX10_drop_95 : decode cX10_drop 95 = .ok (.aload_n 0, 1) := by decide +kernel
theorem dX10_drop_96 : decode cX10_drop 96 = .ok (.getfield 7, 3) := by decide +kernel
theorem dX10_drop_99 : decode cX10_drop 99 = .ok (.bipush 66, 2) := by decide +kernel
theorem dX10_drop_101 : decode cX10_drop 101 = .ok (.aload_n 0, 1) := by decide +kernel
theorem dX10_drop_102 : decode cX10_drop 102 = .ok (.getfield 7, 3) := by decide +kernel
theorem dX10_drop_105 : decode cX10_drop 105 = .ok (.bipush 23, 2) := by decide +kernel
theorem dX10_drop_107 : decode cX10_drop 107 = .ok (.iaload, 1) := by decide +kernel
theorem dX10_drop_108 : decode cX10_drop 108 = .ok (.iastore, 1) := by decide +kernel
theorem dX10_drop_109 : decode cX10_drop 109 = .ok (.aload_n 0, 1) := by decide +kernel
theorem dX10_drop_110 : decode cX10_drop 110 = .ok (.getfield 7, 3) := by decide +kernel
theorem dX10_drop_113 : decode cX10_drop 113 = .ok (.bipush 67, 2) := by decide +kernel
theorem dX10_drop_115 : decode cX10_drop 115 = .ok (.aload_n 0, 1) := by decide +kernel
theorem dX10_drop_116 : decode cX10_drop 116 = .ok (.getfield 7, 3) := by decide +kernel
theorem dX10_drop_119 : decode cX10_drop 119 = .ok (.bipush 24, 2) := by decide +kernel
theorem dX10_drop_121 : decode cX10_drop 121 = .ok (.iaload, 1) := by decide +kernel
theorem dX10_drop_122 : decode cX10_drop 122 = .ok (.iastore, 1) := by decide +kernel
theorem dX10_drop_123 : decode cX10_drop 123 = .ok (.aload_n 0, 1) := by decide +kernel
theorem dX10_drop_124 : decode cX10_drop 124 = .ok (.getfield 7, 3) := by decide +kernel
theorem dX10_drop_127 : decode cX10_drop 127 = .ok (.bipush 68, 2) := by decide +kernel
theorem dX10_drop_129 : decode cX10_drop 129 = .ok (.aload_n 0, 1) := by decide +kernel
theorem dX10_drop_130 : decode cX10_drop 130 = .ok (.getfield 7, 3) := by decide +kernel
theorem dX10_drop_133 : decode cX10_drop 133 = .ok (.bipush 19, 2) := by decide +kernel
theorem dX10_drop_135 : decode cX10_drop 135 = .ok (.iaload, 1) := by decide +kernel
theorem dX10_drop_136 : decode cX10_drop 136 = .ok (.iastore, 1) := by decide +kernel
theorem dX10_drop_137 : decode cX10_drop 137 = .ok (.aload_n 0, 1) := by decide +kernel
theorem dX10_drop_138 : decode cX10_drop 138 = .ok (.getfield 7, 3) := by decide +kernel
theorem dX10_drop_141 : decode cX10_drop 141 = .ok (.bipush 69, 2) := by decide +kernel
theorem dX10_drop_143 : decode cX10_drop 143 = .ok (.aload_n 0, 1) := by decide +kernel
theorem dX10_drop_144 : decode cX10_drop 144 = .ok (.getfield 7, 3) := by decide +kernel
theorem dX10_drop_147 : decode cX10_drop 147 = .ok (.bipush 25, 2) := by decide +kernel
theorem dX10_drop_149 : decode cX10_drop 149 = .ok (.iaload, 1) := by decide +kernel
theorem dX10_drop_150 : decode cX10_drop 150 = .ok (.iastore, 1) := by decide +kernel
theorem dX10_drop_151 : decode cX10_drop 151 = .ok (.aload_n 0, 1) := by decide +kernel
theorem dX10_drop_152 : decode cX10_drop 152 = .ok (.getfield 7, 3) := by decide +kernel
theorem dX10_drop_155 : decode cX10_drop 155 = .ok (.bipush 63, 2) := by decide +kernel
theorem dX10_drop_157 : decode cX10_drop 157 = .ok (.aload_n 0, 1) := by decide +kernel
theorem dX10_drop_158 : decode cX10_drop 158 = .ok (.getfield 7, 3) := by decide +kernel
theorem dX10_drop_161 : decode cX10_drop 161 = .ok (.bipush 63, 2) := by decide +kernel
theorem dX10_drop_163 : decode cX10_drop 163 = .ok (.iaload, 1) := by decide +kernel
theorem dX10_drop_164 : decode cX10_drop 164 = .ok (.iconst 1, 1) := by decide +kernel
theorem dX10_drop_165 : decode cX10_drop 165 = .ok (.iadd, 1) := by decide +kernel
theorem dX10_drop_166 : decode cX10_drop 166 = .ok (.iconst 0, 1) := by decide +kernel
theorem dX10_drop_167 : decode cX10_drop 167 = .ok (.bipush 8, 2) := by decide +kernel
theorem dX10_drop_169 : decode cX10_drop 169 = .ok (.invokestatic 100, 3) := by decide +kernel
theorem dX10_drop_172 : decode cX10_drop 172 = .ok (.iastore, 1) := by decide +kernel
theorem dX10_drop_173 : decode cX10_drop 173 = .ok (.aload_n 0, 1) := by decide +kernel
theorem dX10_drop_174 : decode cX10_drop 174 = .ok (.getfield 7, 3) := by decide +kernel
theorem dX10_drop_177 : decode cX10_drop 177 = .ok (.iconst 5, 1) := by decide +kernel
theorem dX10_drop_178 : decode cX10_drop 178 = .ok (.aload_n 0, 1) := by decide +kernel
theorem dX10_drop_179 : decode cX10_drop 179 = .ok (.getfield 7, 3) := by decide +kernel
end
section
theorem dX10_drop_182 : decode cX10_drop 182 = .ok (.iconst 5, 1) := by decide +kernel
theorem dX10_drop_183 : decode cX10_drop 183 = .ok (.iaload, 1) := by decide +kernel
theorem dX10_drop_184 : decode cX10_drop 184 = .ok (.aload_n 0, 1) := by decide +kernel
theorem dX10_drop_185 : decode cX10_drop 185 = .ok (.getfield 7, 3) := by decide +kernel
theorem dX10_drop_188 : decode cX10_drop 188 = .ok (.bipush 6, 2) := by decide +kernel
theorem dX10_drop_190 : decode cX10_drop 190 = .ok (.iaload, 1) := by decide +kernel
theorem dX10_drop_191 : decode cX10_drop 191 = .ok (.iadd, 1) := by decide +kernel
theorem dX10_drop_192 : decode cX10_drop 192 = .ok (.iconst 1, 1) := by decide +kernel
theorem dX10_drop_193 : decode cX10_drop 193 = .ok (.bipush 60, 2) := by decide +kernel
theorem dX10_drop_195 : decode cX10_drop 195 = .ok (.invokestatic 100, 3) := by decide +kernel
theorem dX10_drop_198 : decode cX10_drop 198 = .ok (.iastore, 1) := by decide +kernel
theorem dX10_drop_199 : decode cX10_drop 199 = .ok (.aload_n 0, 1) := by decide +kernel
theorem dX10_drop_200 : decode cX10_drop 200 = .ok (.getfield 7, 3) := by decide +kernel
theorem dX10_drop_203 : decode cX10_drop 203 = .ok (.bipush 19, 2) := by decide +kernel
theorem dX10_drop_205 : decode cX10_drop 205 = .ok (.iaload, 1) := by decide +kernel
theorem dX10_drop_206 : decode cX10_drop 206 = .ok (.ireturn, 1) := by decide +kernel
theorem dX10_takeAway_0 : decode cX10_takeAway 0 = .ok (.aload_n 0, 1) := by decide +kernel
theorem dX10_takeAway_1 : decode cX10_takeAway 1 = .ok (.iconst 0, 1) := by decide +kernel
theorem dX10_takeAway_2 : decode cX10_takeAway 2 = .ok (.putfield 25, 3) := by decide +kernel
theorem dX10_takeAway_5 : decode cX10_takeAway 5 = .ok (.aload_n 0, 1) := by decide +kernel
theorem dX10_takeAway_6 : decode cX10_takeAway 6 = .ok (.getfield 7, 3) := by decide +kernel
theorem dX10_takeAway_9 : decode cX10_takeAway 9 = .ok (.iconst 1, 1) := by decide +kernel
theorem dX10_takeAway_10 : decode cX10_takeAway 10 = .ok (.iaload, 1) := by decide +kernel
theorem dX10_takeAway_11 : decode cX10_takeAway 11 = .ok (.iconst 2, 1) := by decide +kernel
theorem dX10_takeAway_12 : decode cX10_takeAway 12 = .ok (.if_icmp .ne 23, 3) := by decide +kernel
theorem dX10_takeAway_15 : decode cX10_takeAway 15 = .ok (.aload_n 0, 1) := by decide +kernel
theorem dX10_takeAway_16 : decode cX10_takeAway 16 = .ok (.getfield 7, 3) := by decide +kernel
theorem dX10_takeAway_19 : decode cX10_takeAway 19 = .ok (.bipush 16, 2) := by decide +kernel
theorem dX10_takeAway_21 : decode cX10_takeAway 21 = .ok (.iaload, 1) := by decide +kernel
theorem dX10_takeAway_22 : decode cX10_takeAway 22 = .ok (.aload_n 0, 1) := by decide +kernel
theorem dX10_takeAway_23 : decode cX10_takeAway 23 = .ok (.getfield 7, 3) := by decide +kernel
theorem dX10_takeAway_26 : decode cX10_takeAway 26 = .ok (.iconst 3, 1) := by decide +kernel
theorem dX10_takeAway_27 : decode cX10_takeAway 27 = .ok (.iaload, 1) := by decide +kernel
theorem dX10_takeAway_28 : decode cX10_takeAway 28 = .ok (.sipush 150, 3) := by decide +kernel
theorem dX10_takeAway_31 : decode cX10_takeAway 31 = .ok (.iadd, 1) := by decide +kernel
theorem dX10_takeAway_32 : decode cX10_takeAway 32 = .ok (.if_icmp .le 6, 3) := by decide +kernel
theorem dX10_takeAway_35 : decode cX10_takeAway 35 = .ok (.ldc 61, 2) := by decide +kernel
theorem dX10_takeAway_37 : decode cX10_takeAway 37 = .ok (.ireturn, 1) := by decide +kernel
theorem dX10_takeAway_38 : decode cX10_takeAway 38 = .ok (.aload_n 0, 1) := by decide +kernel
theorem dX10_takeAway_39 : decode cX10_takeAway 39 = .ok (.invokevirtual 36, 3) := by decide +kernel
theorem dX10_takeAway_42 : decode cX10_takeAway 42 = .ok (.aload_n 0, 1) := by decide +kernel
theorem dX10_takeAway_43 : decode cX10_takeAway 43 = .ok (.getfield 7, 3) := by decide +kernel
theorem dX10_takeAway_46 : decode cX10_takeAway 46 = .ok (.iconst 1, 1) := by decide +kernel
theorem dX10_takeAway_47 : decode cX10_takeAway 47 = .ok (.iconst 0, 1) := by decide +kernel
theorem dX10_takeAway_48 : decode cX10_takeAway 48 = .ok (.iastore, 1) := by decide +kernel
theorem dX10_takeAway_49 : decode cX10_takeAway 49 = .ok (.aload_n 0, 1) := by decide +kernel
theorem dX10_takeAway_50 : decode cX10_takeAway 50 = .ok (.getfield 7, 3) := by decide +kernel
theorem dX10_takeAway_53 : decode cX10_takeAway 53 = .ok (.bipush 16, 2) := by decide +kernel
theorem dX10_takeAway_55 : decode cX10_takeAway 55 = .ok (.iaload, 1) := by decide +kernel
theorem dX10_takeAway_56 : decode cX10_takeAway 56 = .ok (.ireturn, 1) := by decide +kernel
theorem dX10_targetAt_0 : decode cX10_targetAt 0 = .ok (.aload_n 0, 1) := by decide +kernel
theorem dX10_targetAt_1 : decode cX10_targetAt 1 = .ok (.getfield 7, 3) := by decide +kernel
theorem dX10_targetAt_4 : decode cX10_targetAt 4 = .ok (.bipush 32, 2) := by decide +kernel
theorem dX10_targetAt_6 : decode cX10_targetAt 6 = .ok (.iaload, 1) := by decide +kernel
theorem dX10_targetAt_7 : decode cX10_targetAt 7 = .ok (.istore_n 2, 1) := by decide +kernel
theorem dX10_targetAt_8 : decode cX10_targetAt 8 = .ok (.iload_n 2, 1) := by decide +kernel
theorem dX10_targetAt_9 : decode cX10_targetAt 9 = .ok (.ifCond .ne 6, 3) := by decide +kernel
theorem dX10_targetAt_12 : decode cX10_targetAt 12 = .ok (.ldc 81, 2) := by decide +kernel
theorem dX10_targetAt_14 : decode cX10_targetAt 14 = .ok (.ireturn, 1) := by decide +kernel
theorem dX10_targetAt_15 : decode cX10_targetAt 15 = .ok (.aload_n 0, 1) := by decide +kernel
theorem dX10_targetAt_16 : decode cX10_targetAt 16 = .ok (.bipush 33, 2) := by decide +kernel
theorem dX10_targetAt_18 : decode cX10_targetAt 18 = .ok (.iload_n 2, 1) := by decide +kernel
theorem dX10_targetAt_19 : decode cX10_targetAt 19 = .ok (.iload_n 1, 1) := by decide +kernel
theorem dX10_targetAt_20 : decode cX10_targetAt 20 = .ok (.invokevirtual 48, 3) := by decide +kernel
theorem dX10_targetAt_23 : decode cX10_targetAt 23 = .ok (.istore_n 3, 1) := by decide +kernel
theorem dX10_targetAt_24 : decode cX10_targetAt 24 = .ok (.aload_n 0, 1) := by decide +kernel
theorem dX10_targetAt_25 : decode cX10_targetAt 25 = .ok (.bipush 33, 2) := by decide +kernel
theorem dX10_targetAt_27 : decode cX10_targetAt 27 = .ok (.iload_n 2, 1) := by decide +kernel
theorem dX10_targetAt_28 : decode cX10_targetAt 28 = .ok (.iload_n 3, 1) := by decide +kernel
theorem dX10_targetAt_29 : decode cX10_targetAt 29 = .ok (.iload_n 1, 1) := by decide +kernel
theorem dX10_targetAt_30 : decode cX10_targetAt 30 = .ok (.invokevirtual 52, 3) := by decide +kernel
theorem dX10_targetAt_33 : decode cX10_targetAt 33 = .ok (.ifCond .ne 7, 3) := by decide +kernel
theorem dX10_targetAt_36 : decode cX10_targetAt 36 = .ok (.iload_n 3, 1) := by decide +kernel
theorem dX10_targetAt_37 : decode cX10_targetAt 37 = .ok (.ifCond .ne 17, 3) := by decide +kernel
theorem dX10_targetAt_40 : decode cX10_targetAt 40 = .ok (.aload_n 0, 1) := by decide +kernel
theorem dX10_targetAt_41 : decode cX10_targetAt 41 = .ok (.getfield 7, 3) := by decide +kernel
theorem dX10_targetAt_44 : decode cX10_targetAt 44 = .ok (.bipush 33, 2) := by decide +kernel
theorem dX10_targetAt_46 : decode cX10_targetAt 46 = .ok (.iconst 2, 1) := by decide +kernel
theorem dX10_targetAt_47 : decode cX10_targetAt 47 = .ok (.iload_n 3, 1) := by decide +kernel
theorem dX10_targetAt_48 : decode cX10_targetAt 48 = .ok (.imul, 1) := by decide +kernel
theorem dX10_targetAt_49 : decode cX10_targetAt 49 = .ok (.iadd, 1) := by decide +kernel
theorem dX10_targetAt_50 : decode cX10_targetAt 50 = .ok (.iconst 1, 1) := by decide +kernel
theorem dX10_targetAt_51 : decode cX10_targetAt 51 = .ok (.iadd, 1) := by decide +kernel
theorem dX10_targetAt_52 : decode cX10_targetAt 52 = .ok (.iaload, 1) := by decide +kernel
theorem dX10_targetAt_53 : decode cX10_targetAt 53 = .ok (.ireturn, 1) := by decide +kernel
theorem dX10_targetAt_54 : decode cX10_targetAt 54 = .ok (.bipush 33, 2) := by decide +kernel
theorem dX10_targetAt_56 : decode cX10_targetAt 56 = .ok (.iconst 2, 1) := by decide +kernel
theorem dX10_targetAt_57 : decode cX10_targetAt 57 = .ok (.iload_n 3, 1) := by decide +kernel
theorem dX10_targetAt_58 : decode cX10_targetAt 58 = .ok (.imul, 1) := by decide +kernel
theorem dX10_targetAt_59 : decode cX10_targetAt 59 = .ok (.iadd, 1) := by decide +kernel
theorem dX10_targetAt_60 : decode cX10_targetAt 60 = .ok (.iconst 2, 1) := by decide +kernel
theorem dX10_targetAt_61 : decode cX10_targetAt 61 = .ok (.isub, 1) := by decide +kernel
theorem dX10_targetAt_62 : decode cX10_targetAt 62 = .ok (.istore 4, 2) := by decide +kernel
theorem dX10_targetAt_64 : decode cX10_targetAt 64 = .ok (.iload_n 3, 1) := by decide +kernel
theorem dX10_targetAt_65 : decode cX10_targetAt 65 = .ok (.iload_n 2, 1) := by decide +kernel
theorem dX10_targetAt_66 : decode cX10_targetAt 66 = .ok (.if_icmp .ne 13, 3) := by decide +kernel
theorem dX10_targetAt_69 : decode cX10_targetAt 69 = .ok (.aload_n 0, 1) := by decide +kernel
theorem dX10_targetAt_70 : decode cX10_targetAt 70 = .ok (.getfield 7, 3) := by decide +kernel
theorem dX10_targetAt_73 : decode cX10_targetAt 73 = .ok (.iload 4, 2) := by decide +kernel
theorem dX10_targetAt_75 : decode cX10_targetAt 75 = .ok (.iconst 1, 1) := by decide +kernel
theorem dX10_targetAt_76 : decode cX10_targetAt 76 = .ok (.iadd, 1) := by decide +kernel
theorem dX10_targetAt_77 : decode cX10_targetAt 77 = .ok (.iaload, 1) := by decide +kernel
theorem dX10_targetAt_78 : decode cX10_targetAt 78 = .ok (.ireturn, 1) := by decide +kernel
theorem dX10_targetAt_79 : decode cX10_targetAt 79 = .ok (.aload_n 0, 1) := by decide +kernel
theorem dX10_targetAt_80 : decode cX10_targetAt 80 = .ok (.getfield 7, 3) := by decide +kernel
theorem dX10_targetAt_83 : decode cX10_targetAt 83 = .ok (.iload 4, 2) := by decide +kernel
theorem dX10_targetAt_85 : decode cX10_targetAt 85 = .ok (.iconst 1, 1) := by decide +kernel
theorem dX10_targetAt_86 : decode cX10_targetAt 86 = .ok (.iadd, 1) := by decide +kernel
theorem dX10_targetAt_87 : decode cX10_targetAt 87 = .ok (.iaload, 1) := by decide +kernel
theorem dX10_targetAt_88 : decode cX10_targetAt 88 = .ok (.aload_n 0, 1) := by decide +kernel
theorem dX10_targetAt_89 : decode cX10_targetAt 89 = .ok (.getfield 7, 3) := by decide +kernel
theorem dX10_targetAt_92 : decode cX10_targetAt 92 = .ok (.iload 4, 2) := by decide +kernel
theorem dX10_targetAt_94 : decode cX10_targetAt 94 = .ok (.iconst 3, 1) := by decide +kernel
theorem dX10_targetAt_95 : decode cX10_targetAt 95 = .ok (.iadd, 1) := by decide +kernel
theorem dX10_targetAt_96 : decode cX10_targetAt 96 = .ok (.iaload, 1) := by decide +kernel
theorem dX10_targetAt_97 : decode cX10_targetAt 97 = .ok (.aload_n 0, 1) := by decide +kernel
theorem dX10_targetAt_98 : decode cX10_targetAt 98 = .ok (.getfield 7, 3) := by decide +kernel
theorem dX10_targetAt_101 : decode cX10_targetAt 101 = .ok (.iload 4, 2) := by decide +kernel
theorem dX10_targetAt_103 : decode cX10_targetAt 103 = .ok (.iconst 1, 1) := by decide +kernel
theorem dX10_targetAt_104 : decode cX10_targetAt 104 = .ok (.iadd, 1) := by decide +kernel
theorem dX10_targetAt_105 : decode cX10_targetAt 105 = .ok (.iaload, 1) := by decide +kernel
theorem dX10_targetAt_106 : decode cX10_targetAt 106 = .ok (.isub, 1) := by decide +kernel
theorem dX10_targetAt_107 : decode cX10_targetAt 107 = .ok (.iload_n 1, 1) := by decide +kernel
theorem dX10_targetAt_108 : decode cX10_targetAt 108 = .ok (.aload_n 0, 1) := by decide +kernel
theorem dX10_targetAt_109 : decode cX10_targetAt 109 = .ok (.getfield 7, 3) := by decide +kernel
theorem dX10_targetAt_112 : decode cX10_targetAt 112 = .ok (.iload 4, 2) := by decide +kernel
theorem dX10_targetAt_114 : decode cX10_targetAt 114 = .ok (.iaload, 1) := by decide +kernel
theorem dX10_targetAt_115 : decode cX10_targetAt 115 = .ok (.isub, 1) := by decide +kernel
theorem dX10_targetAt_116 : decode cX10_targetAt 116 = .ok (.imul, 1) := by decide +kernel
theorem dX10_targetAt_117 : decode cX10_targetAt 117 = .ok (.aload_n 0, 1) := by decide +kernel
theorem dX10_targetAt_118 : decode cX10_targetAt 118 = .ok (.getfield 7, 3) := by decide +kernel
theorem dX10_targetAt_121 : decode cX10_targetAt 121 = .ok (.iload 4, 2) := by decide +kernel
theorem dX10_targetAt_123 : decode cX10_targetAt 123 = .ok (.iconst 2, 1) := by decide +kernel
theorem dX10_targetAt_124 : decode cX10_targetAt 124 = .ok (.iadd, 1) := by decide +kernel
theorem dX10_targetAt_125 : decode cX10_targetAt 125 = .ok (.iaload, 1) := by decide +kernel
theorem dX10_targetAt_126 : decode cX10_targetAt 126 = .ok (.aload_n 0, 1) := by decide +kernel
theorem dX10_targetAt_127 : decode cX10_targetAt 127 = .ok (.getfield 7, 3) := by decide +kernel
theorem dX10_targetAt_130 : decode cX10_targetAt 130 = .ok (.iload 4, 2) := by decide +kernel
theorem dX10_targetAt_132 : decode cX10_targetAt 132 = .ok (.iaload, 1) := by decide +kernel
theorem dX10_targetAt_133 : decode cX10_targetAt 133 = .ok (.isub, 1) := by decide +kernel
theorem dX10_targetAt_134 : decode cX10_targetAt 134 = .ok (.invokestatic 103, 3) := by decide +kernel
theorem dX10_targetAt_137 : decode cX10_targetAt 137 = .ok (.iadd, 1) := by decide +kernel
theorem dX10_targetAt_138 : decode cX10_targetAt 138 = .ok (.ireturn, 1) := by decide +kernel
theorem dX10_rateAt_0 : decode cX10_rateAt 0 = .ok (.aload_n 0, 1) := by decide +kernel
theorem dX10_rateAt_1 : decode cX10_rateAt 1 = .ok (.bipush 50, 2) := by decide +kernel
theorem dX10_rateAt_3 : decode cX10_rateAt 3 = .ok (.aload_n 0, 1) := by decide +kernel
theorem dX10_rateAt_4 : decode cX10_rateAt 4 = .ok (.getfield 7, 3) := by decide +kernel
theorem dX10_rateAt_7 : decode cX10_rateAt 7 = .ok (.bipush 49, 2) := by decide +kernel
theorem dX10_rateAt_9 : decode cX10_rateAt 9 = .ok (.iaload, 1) := by decide +kernel
theorem dX10_rateAt_10 : decode cX10_rateAt 10 = .ok (.iload_n 1, 1) := by decide +kernel
theorem dX10_rateAt_11 : decode cX10_rateAt 11 = .ok (.iconst 1, 1) := by decide +kernel
theorem dX10_rateAt_12 : decode cX10_rateAt 12 = .ok (.iadd, 1) := by decide +kernel
theorem dX10_rateAt_13 : decode cX10_rateAt 13 = .ok (.invokevirtual 48, 3) := by decide +kernel
theorem dX10_rateAt_16 : decode cX10_rateAt 16 = .ok (.istore_n 2, 1) := by decide +kernel
theorem dX10_rateAt_17 : decode cX10_rateAt 17 = .ok (.iload_n 2, 1) := by decide +kernel
theorem dX10_rateAt_18 : decode cX10_rateAt 18 = .ok (.ifCond .ne 7, 3) := by decide +kernel
theorem dX10_rateAt_21 : decode cX10_rateAt 21 = .ok (.iconst 0, 1) := by decide +kernel
theorem dX10_rateAt_22 : decode cX10_rateAt 22 = .ok (.goto 16, 3) := by decide +kernel
theorem dX10_rateAt_25 : decode cX10_rateAt 25 = .ok (.aload_n 0, 1) := by decide +kernel
theorem dX10_rateAt_26 : decode cX10_rateAt 26 = .ok (.getfield 7, 3) := by decide +kernel
theorem dX10_rateAt_29 : decode cX10_rateAt 29 = .ok (.bipush 50, 2) := by decide +kernel
theorem dX10_rateAt_31 : decode cX10_rateAt 31 = .ok (.iconst 2, 1) := by decide +kernel
theorem dX10_rateAt_32 : decode cX10_rateAt 32 = .ok (.iload_n 2, 1) := by decide +kernel
theorem dX10_rateAt_33 : decode cX10_rateAt 33 = .ok (.imul, 1) := by decide +kernel
theorem dX10_rateAt_34 : decode cX10_rateAt 34 = .ok (.iadd, 1) := by decide +kernel
theorem dX10_rateAt_35 : decode cX10_rateAt 35 = .ok (.iconst 1, 1) := by decide +kernel
theorem dX10_rateAt_36 : decode cX10_rateAt 36 = .ok (.isub, 1) := by decide +kernel
theorem dX10_rateAt_37 : decode cX10_rateAt 37 = .ok (.iaload, 1) := by decide +kernel
theorem dX10_rateAt_38 : decode cX10_rateAt 38 = .ok (.ireturn, 1) := by decide +kernel
theorem dX10_control_0 : decode cX10_control 0 = .ok (.aload_n 0, 1) := by decide +kernel
theorem dX10_control_1 : decode cX10_control 1 = .ok (.aload_n 0, 1) := by decide +kernel
theorem dX10_control_2 : decode cX10_control 2 = .ok (.getfield 7, 3) := by decide +kernel
theorem dX10_control_5 : decode cX10_control 5 = .ok (.bipush 18, 2) := by decide +kernel
theorem dX10_control_7 : decode cX10_control 7 = .ok (.iaload, 1) := by decide +kernel
theorem dX10_control_8 : decode cX10_control 8 = .ok (.invokevirtual 106, 3) := by decide +kernel
theorem dX10_control_11 : decode cX10_control 11 = .ok (.istore_n 1, 1) := by decide +kernel
theorem dX10_control_12 : decode cX10_control 12 = .ok (.aload_n 0, 1) := by decide +kernel
theorem dX10_control_13 : decode cX10_control 13 = .ok (.getfield 7, 3) := by decide +kernel
theorem dX10_control_16 : decode cX10_control 16 = .ok (.bipush 9, 2) := by decide +kernel
theorem dX10_control_18 : decode cX10_control 18 = .ok (.iaload, 1) := by decide +kernel
theorem dX10_control_19 : decode cX10_control 19 = .ok (.ifCond .eq 9, 3) := by decide +kernel
theorem dX10_control_22 : decode cX10_control 22 = .ok (.iload_n 1, 1) := by decide +kernel
theorem dX10_control_23 : decode cX10_control 23 = .ok (.ldc 81, 2) := by decide +kernel
theorem dX10_control_25 : decode cX10_control 25 = .ok (.if_icmp .ne 4, 3) := by decide +kernel
theorem dX10_control_28 : decode cX10_control 28 = .ok (.return_, 1) := by decide +kernel
theorem dX10_control_29 : decode cX10_control 29 = .ok (.iload_n 1, 1) := by decide +kernel
theorem dX10_control_30 : decode cX10_control 30 = .ok (.aload_n 0, 1) := by decide +kernel
theorem dX10_control_31 : decode cX10_control 31 = .ok (.getfield 7, 3) := by decide +kernel
theorem dX10_control_34 : decode cX10_control 34 = .ok (.iconst 4, 1) := by decide +kernel
theorem dX10_control_35 : decode cX10_control 35 = .ok (.iaload, 1) := by decide +kernel
theorem dX10_control_36 : decode cX10_control 36 = .ok (.isub, 1) := by decide +kernel
theorem dX10_control_37 : decode cX10_control 37 = .ok (.istore_n 2, 1) := by decide +kernel
theorem dX10_control_38 : decode cX10_control 38 = .ok (.aload_n 0, 1) := by decide +kernel
theorem dX10_control_39 : decode cX10_control 39 = .ok (.getfield 7, 3) := by decide +kernel
theorem dX10_control_42 : decode cX10_control 42 = .ok (.bipush 13, 2) := by decide +kernel
theorem dX10_control_44 : decode cX10_control 44 = .ok (.aload_n 0, 1) := by decide +kernel
theorem dX10_control_45 : decode cX10_control 45 = .ok (.getfield 7, 3) := by decide +kernel
theorem dX10_control_48 : decode cX10_control 48 = .ok (.bipush 13, 2) := by decide +kernel
theorem dX10_control_50 : decode cX10_control 50 = .ok (.iaload, 1) := by decide +kernel
theorem dX10_control_51 : decode cX10_control 51 = .ok (.iload_n 2, 1) := by decide +kernel
theorem dX10_control_52 : decode cX10_control 52 = .ok (.iadd, 1) := by decide +kernel
theorem dX10_control_53 : decode cX10_control 53 = .ok (.sipush (-20000), 3) := by decide +kernel
theorem dX10_control_56 : decode cX10_control 56 = .ok (.sipush 20000, 3) := by decide +kernel
theorem dX10_control_59 : decode cX10_control 59 = .ok (.invokestatic 100, 3) := by decide +kernel
theorem dX10_control_62 : decode cX10_control 62 = .ok (.iastore, 1) := by decide +kernel
theorem dX10_control_63 : decode cX10_control 63 = .ok (.aload_n 0, 1) := by decide +kernel
theorem dX10_control_64 : decode cX10_control 64 = .ok (.getfield 7, 3) := by decide +kernel
theorem dX10_control_67 : decode cX10_control 67 = .ok (.bipush 7, 2) := by decide +kernel
theorem dX10_control_69 : decode cX10_control 69 = .ok (.aload_n 0, 1) := by decide +kernel
theorem dX10_control_70 : decode cX10_control 70 = .ok (.getfield 7, 3) := by decide +kernel
theorem dX10_control_73 : decode cX10_control 73 = .ok (.bipush 12, 2) := by decide +kernel
theorem dX10_control_75 : decode cX10_control 75 = .ok (.iaload, 1) := by decide +kernel
theorem dX10_control_76 : decode cX10_control 76 = .ok (.aload_n 0, 1) := by decide +kernel
theorem dX10_control_77 : decode cX10_control 77 = .ok (.getfield 7, 3) := by decide +kernel
theorem dX10_control_80 : decode cX10_control 80 = .ok (.bipush 10, 2) := by decide +kernel
theorem dX10_control_82 : decode cX10_control 82 = .ok (.iaload, 1) := by decide +kernel
theorem dX10_control_83 : decode cX10_control 83 = .ok (.iload_n 2, 1) := by decide +kernel
theorem dX10_control_84 : decode cX10_control 84 = .ok (.imul, 1) := by decide +kernel
theorem dX10_control_85 : decode cX10_control 85 = .ok (.bipush 100, 2) := by decide +kernel
theorem dX10_control_87 : decode cX10_control 87 = .ok (.invokestatic 103, 3) := by decide +kernel
theorem dX10_control_90 : decode cX10_control 90 = .ok (.iadd, 1) := by decide +kernel
theorem dX10_control_91 : decode cX10_control 91 = .ok (.aload_n 0, 1) := by decide +kernel
theorem dX10_control_92 : decode cX10_control 92 = .ok (.getfield 7, 3) := by decide +kernel
theorem dX10_control_95 : decode cX10_control 95 = .ok (.bipush 11, 2) := by decide +kernel
theorem dX10_control_97 : decode cX10_control 97 = .ok (.iaload, 1) := by decide +kernel
theorem dX10_control_98 : decode cX10_control 98 = .ok (.aload_n 0, 1) := by decide +kernel
theorem dX10_control_99 : decode cX10_control 99 = .ok (.getfield 7, 3) := by decide +kernel
theorem dX10_control_102 : decode cX10_control 102 = .ok (.bipush 13, 2) := by decide +kernel
theorem dX10_control_104 : decode cX10_control 104 = .ok (.iaload, 1) := by decide +kernel
theorem dX10_control_105 : decode cX10_control 105 = .ok (.imul, 1) := by decide +kernel
theorem dX10_control_106 : decode cX10_control 106 = .ok (.sipush 1000, 3) := by decide +kernel
theorem dX10_control_109 : decode cX10_control 109 = .ok (.invokestatic 103, 3) := by decide +kernel
theorem dX10_control_112 : decode cX10_control 112 = .ok (.iadd, 1) := by decide +kernel
theorem dX10_control_113 : decode cX10_control 113 = .ok (.iconst 0, 1) := by decide +kernel
theorem dX10_control_114 : decode cX10_control 114 = .ok (.bipush 100, 2) := by decide +kernel
theorem dX10_control_116 : decode cX10_control 116 = .ok (.invokestatic 100, 3) := by decide +kernel
theorem dX10_control_119 : decode cX10_control 119 = .ok (.iastore, 1) := by decide +kernel
theorem dX10_control_120 : decode cX10_control 120 = .ok (.return_, 1) := by decide +kernel
theorem dX10_crack_0 : decode cX10_crack 0 = .ok (.sipush 1000, 3) := by decide +kernel
theorem dX10_crack_3 : decode cX10_crack 3 = .ok (.aload_n 0, 1) := by decide +kernel
theorem dX10_crack_4 : decode cX10_crack 4 = .ok (.getfield 7, 3) := by decide +kernel
theorem dX10_crack_7 : decode cX10_crack 7 = .ok (.bipush 20, 2) := by decide +kernel
theorem dX10_crack_9 : decode cX10_crack 9 = .ok (.iaload, 1) := by decide +kernel
theorem dX10_crack_10 : decode cX10_crack 10 = .ok (.isub, 1) := by decide +kernel
theorem dX10_crack_11 : decode cX10_crack 11 = .ok (.istore_n 1, 1) := by decide +kernel
theorem dX10_crack_12 : decode cX10_crack 12 = .ok (.aload_n 0, 1) := by decide +kernel
theorem dX10_crack_13 : decode cX10_crack 13 = .ok (.getfield 7, 3) := by decide +kernel
theorem dX10_crack_16 : decode cX10_crack 16 = .ok (.bipush 16, 2) := by decide +kernel
theorem dX10_crack_18 : decode cX10_crack 18 = .ok (.iaload, 1) := by decide +kernel
theorem dX10_crack_19 : decode cX10_crack 19 = .ok (.aload_n 0, 1) := by decide +kernel
theorem dX10_crack_20 : decode cX10_crack 20 = .ok (.getfield 7, 3) := by decide +kernel
theorem dX10_crack_23 : decode cX10_crack 23 = .ok (.bipush 14, 2) := by decide +kernel
theorem dX10_crack_25 : decode cX10_crack 25 = .ok (.iaload, 1) := by decide +kernel
theorem dX10_crack_26 : decode cX10_crack 26 = .ok (.if_icmp .ge 7, 3) := by decide +kernel
theorem dX10_crack_29 : decode cX10_crack 29 = .ok (.iconst 0, 1) := by decide +kernel
theorem dX10_crack_30 : decode cX10_crack 30 = .ok (.goto 22, 3) := by decide +kernel
theorem dX10_crack_33 : decode cX10_crack 33 = .ok (.aload_n 0, 1) := by decide +kernel
theorem dX10_crack_34 : decode cX10_crack 34 = .ok (.getfield 7, 3) := by decide +kernel
theorem dX10_crack_37 : decode cX10_crack 37 = .ok (.bipush 16, 2) := by decide +kernel
theorem dX10_crack_39 : decode cX10_crack 39 = .ok (.iaload, 1) := by decide +kernel
theorem dX10_crack_40 : decode cX10_crack 40 = .ok (.aload_n 0, 1) := by decide +kernel
theorem dX10_crack_41 : decode cX10_crack 41 = .ok (.getfield 7, 3) := by decide +kernel
theorem dX10_crack_44 : decode cX10_crack 44 = .ok (.bipush 14, 2) := by decide +kernel
theorem dX10_crack_46 : decode cX10_crack 46 = .ok (.iaload, 1) := by decide +kernel
theorem dX10_crack_47 : decode cX10_crack 47 = .ok (.isub, 1) := by decide +kernel
theorem dX10_crack_48 : decode cX10_crack 48 = .ok (.iconst 2, 1) := by decide +kernel
theorem dX10_crack_49 : decode cX10_crack 49 = .ok (.idiv, 1) := by decide +kernel
theorem dX10_crack_50 : decode cX10_crack 50 = .ok (.iconst 1, 1) := by decide +kernel
theorem dX10_crack_51 : decode cX10_crack 51 = .ok (.iadd, 1) := by decide +kernel
theorem dX10_crack_52 : decode cX10_crack 52 = .ok (.istore_n 2, 1) := by decide +kernel
theorem dX10_crack_53 : decode cX10_crack 53 = .ok (.aload_n 0, 1) := by decide +kernel
theorem dX10_crack_54 : decode cX10_crack 54 = .ok (.getfield 7, 3) := by decide +kernel
theorem dX10_crack_57 : decode cX10_crack 57 = .ok (.bipush 21, 2) := by decide +kernel
theorem dX10_crack_59 : decode cX10_crack 59 = .ok (.iload_n 2, 1) := by decide +kernel
theorem dX10_crack_60 : decode cX10_crack 60 = .ok (.iload_n 1, 1) := by decide +kernel
theorem dX10_crack_61 : decode cX10_crack 61 = .ok (.if_icmp .le 7, 3) := by decide +kernel
theorem dX10_crack_64 : decode cX10_crack 64 = .ok (.iload_n 1, 1) := by decide +kernel
theorem dX10_crack_65 : decode cX10_crack 65 = .ok (.goto 4, 3) := by decide +kernel
theorem dX10_crack_68 : decode cX10_crack 68 = .ok (.iload_n 2, 1) := by decide +kernel
theorem dX10_crack_69 : decode cX10_crack 69 = .ok (.iastore, 1) := by decide +kernel
theorem dX10_crack_70 : decode cX10_crack 70 = .ok (.aload_n 0, 1) := by decide +kernel
theorem dX10_crack_71 : decode cX10_crack 71 = .ok (.getfield 7, 3) := by decide +kernel
theorem dX10_crack_74 : decode cX10_crack 74 = .ok (.bipush 20, 2) := by decide +kernel
theorem dX10_crack_76 : decode cX10_crack 76 = .ok (.dup2, 1) := by decide +kernel
theorem dX10_crack_77 : decode cX10_crack 77 = .ok (.iaload, 1) := by decide +kernel
theorem dX10_crack_78 : decode cX10_crack 78 = .ok (.aload_n 0, 1) := by decide +kernel
theorem dX10_crack_79 : decode cX10_crack 79 = .ok (.getfield 7, 3) := by decide +kernel
theorem dX10_crack_82 : decode cX10_crack 82 = .ok (.bipush 21, 2) := by decide +kernel
theorem dX10_crack_84 : decode cX10_crack 84 = .ok (.iaload, 1) := by decide +kernel
theorem dX10_crack_85 : decode cX10_crack 85 = .ok (.iadd, 1) := by decide +kernel
theorem dX10_crack_86 : decode cX10_crack 86 = .ok (.iastore, 1) := by decide +kernel
theorem dX10_crack_87 : decode cX10_crack 87 = .ok (.bipush 26, 2) := by decide +kernel
theorem dX10_crack_89 : decode cX10_crack 89 = .ok (.aload_n 0, 1) := by decide +kernel
theorem dX10_crack_90 : decode cX10_crack 90 = .ok (.getfield 7, 3) := by decide +kernel
theorem dX10_crack_93 : decode cX10_crack 93 = .ok (.bipush 18, 2) := by decide +kernel
theorem dX10_crack_95 : decode cX10_crack 95 = .ok (.iaload, 1) := by decide +kernel
theorem dX10_crack_96 : decode cX10_crack 96 = .ok (.bipush 6, 2) := by decide +kernel
theorem dX10_crack_98 : decode cX10_crack 98 = .ok (.irem, 1) := by decide +kernel
theorem dX10_crack_99 : decode cX10_crack 99 = .ok (.iadd, 1) := by decide +kernel
theorem dX10_crack_100 : decode cX10_crack 100 = .ok (.istore_n 3, 1) := by decide +kernel
theorem dX10_crack_101 : decode cX10_crack 101 = .ok (.aload_n 0, 1) := by decide +kernel
theorem dX10_crack_102 : decode cX10_crack 102 = .ok (.getfield 7, 3) := by decide +kernel
theorem dX10_crack_105 : decode cX10_crack 105 = .ok (.bipush 22, 2) := by decide +kernel
theorem dX10_crack_107 : decode cX10_crack 107 = .ok (.dup2, 1) := by decide +kernel
theorem dX10_crack_108 : decode cX10_crack 108 = .ok (.iaload, 1) := by decide +kernel
theorem dX10_crack_109 : decode cX10_crack 109 = .ok (.aload_n 0, 1) := by decide +kernel
theorem dX10_crack_110 : decode cX10_crack 110 = .ok (.getfield 7, 3) := by decide +kernel
theorem dX10_crack_113 : decode cX10_crack 113 = .ok (.bipush 21, 2) := by decide +kernel
theorem dX10_crack_115 : decode cX10_crack 115 = .ok (.iaload, 1) := by decide +kernel
theorem dX10_crack_116 : decode cX10_crack 116 = .ok (.aload_n 0, 1) := by decide +kernel
theorem dX10_crack_117 : decode cX10_crack 117 = .ok (.getfield 7, 3) := by decide +kernel
theorem dX10_crack_120 : decode cX10_crack 120 = .ok (.iload_n 3, 1) := by decide +kernel
theorem dX10_crack_121 : decode cX10_crack 121 = .ok (.iaload, 1) := by decide +kernel
theorem dX10_crack_122 : decode cX10_crack 122 = .ok (.isub, 1) := by decide +kernel
theorem dX10_crack_123 : decode cX10_crack 123 = .ok (.iadd, 1) := by decide +kernel
theorem dX10_crack_124 : decode cX10_crack 124 = .ok (.iastore, 1) := by decide +kernel
theorem dX10_crack_125 : decode cX10_crack 125 = .ok (.aload_n 0, 1) := by decide +kernel
theorem dX10_crack_126 : decode cX10_crack 126 = .ok (.getfield 7, 3) := by decide +kernel
theorem dX10_crack_129 : decode cX10_crack 129 = .ok (.iload_n 3, 1) := by decide +kernel
theorem dX10_crack_130 : decode cX10_crack 130 = .ok (.aload_n 0, 1) := by decide +kernel
theorem dX10_crack_131 : decode cX10_crack 131 = .ok (.getfield 7, 3) := by decide +kernel
theorem dX10_crack_134 : decode cX10_crack 134 = .ok (.bipush 21, 2) := by decide +kernel
theorem dX10_crack_136 : decode cX10_crack 136 = .ok (.iaload, 1) := by decide +kernel
theorem dX10_crack_137 : decode cX10_crack 137 = .ok (.iastore, 1) := by decide +kernel
theorem dX10_crack_138 : decode cX10_crack 138 = .ok (.return_, 1) := by decide +kernel
theorem dX10_detect_0 : decode cX10_detect 0 = .ok (.aload_n 0, 1) := by decide +kernel
theorem dX10_detect_1 : decode cX10_detect 1 = .ok (.getfield 7, 3) := by decide +kernel
theorem dX10_detect_4 : decode cX10_detect 4 = .ok (.bipush 22, 2) := by decide +kernel
theorem dX10_detect_6 : decode cX10_detect 6 = .ok (.iaload, 1) := by decide +kernel
theorem dX10_detect_7 : decode cX10_detect 7 = .ok (.aload_n 0, 1) := by decide +kernel
theorem dX10_detect_8 : decode cX10_detect 8 = .ok (.getfield 7, 3) := by decide +kernel
theorem dX10_detect_11 : decode cX10_detect 11 = .ok (.bipush 15, 2) := by decide +kernel
theorem dX10_detect_13 : decode cX10_detect 13 = .ok (.iaload, 1) := by decide +kernel
theorem dX10_detect_14 : decode cX10_detect 14 = .ok (.if_icmp .lt 7, 3) := by decide +kernel
theorem dX10_detect_17 : decode cX10_detect 17 = .ok (.iconst 1, 1) := by decide +kernel
theorem dX10_detect_18 : decode cX10_detect 18 = .ok (.goto 4, 3) := by decide +kernel
theorem dX10_detect_21 : decode cX10_detect 21 = .ok (.iconst 0, 1) := by decide +kernel
theorem dX10_detect_22 : decode cX10_detect 22 = .ok (.istore_n 1, 1) := by decide +kernel
theorem dX10_detect_23 : decode cX10_detect 23 = .ok (.aload_n 0, 1) := by decide +kernel
theorem dX10_detect_24 : decode cX10_detect 24 = .ok (.getfield 7, 3) := by decide +kernel
theorem dX10_detect_27 : decode cX10_detect 27 = .ok (.bipush 23, 2) := by decide +kernel
theorem dX10_detect_29 : decode cX10_detect 29 = .ok (.iaload, 1) := by decide +kernel
theorem dX10_detect_30 : decode cX10_detect 30 = .ok (.ldc 81, 2) := by decide +kernel
theorem dX10_detect_32 : decode cX10_detect 32 = .ok (.if_icmp .ne 29, 3) := by decide +kernel
theorem dX10_detect_35 : decode cX10_detect 35 = .ok (.aload_n 0, 1) := by decide +kernel
theorem dX10_detect_36 : decode cX10_detect 36 = .ok (.getfield 7, 3) := by decide +kernel
theorem dX10_detect_39 : decode cX10_detect 39 = .ok (.bipush 23, 2) := by decide +kernel
theorem dX10_detect_41 : decode cX10_detect 41 = .ok (.iload_n 1, 1) := by decide +kernel
theorem dX10_detect_42 : decode cX10_detect 42 = .ok (.ifCond .eq 13, 3) := by decide +kernel
theorem dX10_detect_45 : decode cX10_detect 45 = .ok (.aload_n 0, 1) := by decide +kernel
theorem dX10_detect_46 : decode cX10_detect 46 = .ok (.getfield 7, 3) := by decide +kernel
theorem dX10_detect_49 : decode cX10_detect 49 = .ok (.bipush 18, 2) := by decide +kernel
theorem dX10_detect_51 : decode cX10_detect 51 = .ok (.iaload, 1) := by decide +kernel
theorem dX10_detect_52 : decode cX10_detect 52 = .ok (.goto 5, 3) := by decide +kernel
theorem dX10_detect_55 : decode cX10_detect 55 = .ok (.ldc 81, 2) := by decide +kernel
theorem dX10_detect_57 : decode cX10_detect 57 = .ok (.iastore, 1) := by decide +kernel
theorem dX10_detect_58 : decode cX10_detect 58 = .ok (.goto 33, 3) := by decide +kernel
theorem dX10_detect_61 : decode cX10_detect 61 = .ok (.aload_n 0, 1) := by decide +kernel
theorem dX10_detect_62 : decode cX10_detect 62 = .ok (.getfield 7, 3) := by decide +kernel
theorem dX10_detect_65 : decode cX10_detect 65 = .ok (.bipush 24, 2) := by decide +kernel
theorem dX10_detect_67 : decode cX10_detect 67 = .ok (.iaload, 1) := by decide +kernel
theorem dX10_detect_68 : decode cX10_detect 68 = .ok (.ldc 81, 2) := by decide +kernel
theorem dX10_detect_70 : decode cX10_detect 70 = .ok (.if_icmp .ne 21, 3) := by decide +kernel
theorem dX10_detect_73 : decode cX10_detect 73 = .ok (.iload_n 1, 1) := by decide +kernel
theorem dX10_detect_74 : decode cX10_detect 74 = .ok (.ifCond .ne 17, 3) := by decide +kernel
theorem dX10_detect_77 : decode cX10_detect 77 = .ok (.aload_n 0, 1) := by decide +kernel
theorem dX10_detect_78 : decode cX10_detect 78 = .ok (.getfield 7, 3) := by decide +kernel
theorem dX10_detect_81 : decode cX10_detect 81 = .ok (.bipush 24, 2) := by decide +kernel
theorem dX10_detect_83 : decode cX10_detect 83 = .ok (.aload_n 0, 1) := by decide +kernel
theorem dX10_detect_84 : decode cX10_detect 84 = .ok (.getfield 7, 3) := by decide +kernel
theorem dX10_detect_87 : decode cX10_detect 87 = .ok (.bipush 18, 2) := by decide +kernel
theorem dX10_detect_89 : decode cX10_detect 89 = .ok (.iaload, 1) := by decide +kernel
theorem dX10_detect_90 : decode cX10_detect 90 = .ok (.iastore, 1) := by decide +kernel
theorem dX10_detect_91 : decode cX10_detect 91 = .ok (.return_, 1) := by decide +kernel
theorem dX10_tick_0 : decode cX10_tick 0 = .ok (.aload_n 0, 1) := by decide +kernel
theorem dX10_tick_1 : decode cX10_tick 1 = .ok (.invokevirtual 96, 3) := by decide +kernel
theorem dX10_tick_4 : decode cX10_tick 4 = .ok (.istore_n 1, 1) := by decide +kernel
theorem dX10_tick_5 : decode cX10_tick 5 = .ok (.aload_n 0, 1) := by decide +kernel
theorem dX10_tick_6 : decode cX10_tick 6 = .ok (.getfield 7, 3) := by decide +kernel
theorem dX10_tick_9 : decode cX10_tick 9 = .ok (.iconst 0, 1) := by decide +kernel
theorem dX10_tick_10 : decode cX10_tick 10 = .ok (.dup2, 1) := by decide +kernel
theorem dX10_tick_11 : decode cX10_tick 11 = .ok (.iaload, 1) := by decide +kernel
theorem dX10_tick_12 : decode cX10_tick 12 = .ok (.iconst 1, 1) := by decide +kernel
theorem dX10_tick_13 : decode cX10_tick 13 = .ok (.iadd, 1) := by decide +kernel
theorem dX10_tick_14 : decode cX10_tick 14 = .ok (.iastore, 1) := by decide +kernel
theorem dX10_tick_15 : decode cX10_tick 15 = .ok (.aload_n 0, 1) := by decide +kernel
theorem dX10_tick_16 : decode cX10_tick 16 = .ok (.getfield 7, 3) := by decide +kernel
theorem dX10_tick_19 : decode cX10_tick 19 = .ok (.bipush 18, 2) := by decide +kernel
theorem dX10_tick_21 : decode cX10_tick 21 = .ok (.dup2, 1) := by decide +kernel
theorem dX10_tick_22 : decode cX10_tick 22 = .ok (.iaload, 1) := by decide +kernel
theorem dX10_tick_23 : decode cX10_tick 23 = .ok (.iload_n 1, 1) := by decide +kernel
theorem dX10_tick_24 : decode cX10_tick 24 = .ok (.ifCond .eq 7, 3) := by decide +kernel
theorem dX10_tick_27 : decode cX10_tick 27 = .ok (.iconst 1, 1) := by decide +kernel
theorem dX10_tick_28 : decode cX10_tick 28 = .ok (.goto 4, 3) := by decide +kernel
theorem dX10_tick_31 : decode cX10_tick 31 = .ok (.iconst 0, 1) := by decide +kernel
theorem dX10_tick_32 : decode cX10_tick 32 = .ok (.iadd, 1) := by decide +kernel
theorem dX10_tick_33 : decode cX10_tick 33 = .ok (.iastore, 1) := by decide +kernel
theorem dX10_tick_34 : decode cX10_tick 34 = .ok (.iload_n 1, 1) := by decide +kernel
theorem dX10_tick_35 : decode cX10_tick 35 = .ok (.ifCond .eq 7, 3) := by decide +kernel
theorem dX10_tick_38 : decode cX10_tick 38 = .ok (.aload_n 0, 1) := by decide +kernel
theorem dX10_tick_39 : decode cX10_tick 39 = .ok (.invokevirtual 110, 3) := by decide +kernel
theorem dX10_tick_42 : decode cX10_tick 42 = .ok (.aload_n 0, 1) := by decide +kernel
theorem dX10_tick_43 : decode cX10_tick 43 = .ok (.getfield 7, 3) := by decide +kernel
theorem dX10_tick_46 : decode cX10_tick 46 = .ok (.iconst 2, 1) := by decide +kernel
theorem dX10_tick_47 : decode cX10_tick 47 = .ok (.iaload, 1) := by decide +kernel
theorem dX10_tick_48 : decode cX10_tick 48 = .ok (.istore_n 2, 1) := by decide +kernel
theorem dX10_tick_49 : decode cX10_tick 49 = .ok (.aload_n 0, 1) := by decide +kernel
theorem dX10_tick_50 : decode cX10_tick 50 = .ok (.getfield 7, 3) := by decide +kernel
theorem dX10_tick_53 : decode cX10_tick 53 = .ok (.iconst 2, 1) := by decide +kernel
theorem dX10_tick_54 : decode cX10_tick 54 = .ok (.dup2, 1) := by decide +kernel
theorem dX10_tick_55 : decode cX10_tick 55 = .ok (.iaload, 1) := by decide +kernel
theorem dX10_tick_56 : decode cX10_tick 56 = .ok (.bipush 8, 2) := by decide +kernel
theorem dX10_tick_58 : decode cX10_tick 58 = .ok (.aload_n 0, 1) := by decide +kernel
theorem dX10_tick_59 : decode cX10_tick 59 = .ok (.getfield 7, 3) := by decide +kernel
theorem dX10_tick_62 : decode cX10_tick 62 = .ok (.bipush 7, 2) := by decide +kernel
theorem dX10_tick_64 : decode cX10_tick 64 = .ok (.iaload, 1) := by decide +kernel
theorem dX10_tick_65 : decode cX10_tick 65 = .ok (.imul, 1) := by decide +kernel
theorem dX10_tick_66 : decode cX10_tick 66 = .ok (.iload_n 2, 1) := by decide +kernel
theorem dX10_tick_67 : decode cX10_tick 67 = .ok (.aload_n 0, 1) := by decide +kernel
theorem dX10_tick_68 : decode cX10_tick 68 = .ok (.getfield 7, 3) := by decide +kernel
theorem dX10_tick_71 : decode cX10_tick 71 = .ok (.iconst 3, 1) := by decide +kernel
theorem dX10_tick_72 : decode cX10_tick 72 = .ok (.iaload, 1) := by decide +kernel
theorem dX10_tick_73 : decode cX10_tick 73 = .ok (.isub, 1) := by decide +kernel
theorem dX10_tick_74 : decode cX10_tick 74 = .ok (.iconst 5, 1) := by decide +kernel
theorem dX10_tick_75 : decode cX10_tick 75 = .ok (.invokestatic 103, 3) := by decide +kernel
theorem dX10_tick_78 : decode cX10_tick 78 = .ok (.isub, 1) := by decide +kernel
theorem dX10_tick_79 : decode cX10_tick 79 = .ok (.bipush 10, 2) := by decide +kernel
theorem dX10_tick_81 : decode cX10_tick 81 = .ok (.invokestatic 103, 3) := by decide +kernel
theorem dX10_tick_84 : decode cX10_tick 84 = .ok (.iadd, 1) := by decide +kernel
theorem dX10_tick_85 : decode cX10_tick 85 = .ok (.iastore, 1) := by decide +kernel
theorem dX10_tick_86 : decode cX10_tick 86 = .ok (.iload_n 1, 1) := by decide +kernel
theorem dX10_tick_87 : decode cX10_tick 87 = .ok (.ifCond .eq 133, 3) := by decide +kernel
theorem dX10_tick_90 : decode cX10_tick 90 = .ok (.aload_n 0, 1) := by decide +kernel
theorem dX10_tick_91 : decode cX10_tick 91 = .ok (.getfield 7, 3) := by decide +kernel
theorem dX10_tick_94 : decode cX10_tick 94 = .ok (.iconst 2, 1) := by decide +kernel
theorem dX10_tick_95 : decode cX10_tick 95 = .ok (.dup2, 1) := by decide +kernel
theorem dX10_tick_96 : decode cX10_tick 96 = .ok (.iaload, 1) := by decide +kernel
theorem dX10_tick_97 : decode cX10_tick 97 = .ok (.iload_n 2, 1) := by decide +kernel
theorem dX10_tick_98 : decode cX10_tick 98 = .ok (.aload_n 0, 1) := by decide +kernel
theorem dX10_tick_99 : decode cX10_tick 99 = .ok (.getfield 7, 3) := by decide +kernel
theorem dX10_tick_102 : decode cX10_tick 102 = .ok (.bipush 16, 2) := by decide +kernel
theorem dX10_tick_104 : decode cX10_tick 104 = .ok (.iaload, 1) := by decide +kernel
theorem dX10_tick_105 : decode cX10_tick 105 = .ok (.isub, 1) := by decide +kernel
theorem dX10_tick_106 : decode cX10_tick 106 = .ok (.aload_n 0, 1) := by decide +kernel
theorem dX10_tick_107 : decode cX10_tick 107 = .ok (.getfield 7, 3) := by decide +kernel
theorem dX10_tick_110 : decode cX10_tick 110 = .ok (.bipush 17, 2) := by decide +kernel
theorem dX10_tick_112 : decode cX10_tick 112 = .ok (.iaload, 1) := by decide +kernel
theorem dX10_tick_113 : decode cX10_tick 113 = .ok (.imul, 1) := by decide +kernel
theorem dX10_tick_114 : decode cX10_tick 114 = .ok (.sipush 20000, 3) := by decide +kernel
theorem dX10_tick_117 : decode cX10_tick 117 = .ok (.invokestatic 103, 3) := by decide +kernel
theorem dX10_tick_120 : decode cX10_tick 120 = .ok (.isub, 1) := by decide +kernel
theorem dX10_tick_121 : decode cX10_tick 121 = .ok (.iastore, 1) := by decide +kernel
theorem dX10_tick_122 : decode cX10_tick 122 = .ok (.aload_n 0, 1) := by decide +kernel
theorem dX10_tick_123 : decode cX10_tick 123 = .ok (.getfield 7, 3) := by decide +kernel
theorem dX10_tick_126 : decode cX10_tick 126 = .ok (.bipush 16, 2) := by decide +kernel
theorem dX10_tick_128 : decode cX10_tick 128 = .ok (.dup2, 1) := by decide +kernel
theorem dX10_tick_129 : decode cX10_tick 129 = .ok (.iaload, 1) := by decide +kernel
theorem dX10_tick_130 : decode cX10_tick 130 = .ok (.aload_n 0, 1) := by decide +kernel
theorem dX10_tick_131 : decode cX10_tick 131 = .ok (.getfield 7, 3) := by decide +kernel
theorem dX10_tick_134 : decode cX10_tick 134 = .ok (.iconst 2, 1) := by decide +kernel
theorem dX10_tick_135 : decode cX10_tick 135 = .ok (.iaload, 1) := by decide +kernel
theorem dX10_tick_136 : decode cX10_tick 136 = .ok (.aload_n 0, 1) := by decide +kernel
theorem dX10_tick_137 : decode cX10_tick 137 = .ok (.getfield 7, 3) := by decide +kernel
theorem dX10_tick_140 : decode cX10_tick 140 = .ok (.bipush 16, 2) := by decide +kernel
theorem dX10_tick_142 : decode cX10_tick 142 = .ok (.iaload, 1) := by decide +kernel
theorem dX10_tick_143 : decode cX10_tick 143 = .ok (.isub, 1) := by decide +kernel
theorem dX10_tick_144 : decode cX10_tick 144 = .ok (.bipush 20, 2) := by decide +kernel
theorem dX10_tick_146 : decode cX10_tick 146 = .ok (.invokestatic 103, 3) := by decide +kernel
theorem dX10_tick_149 : decode cX10_tick 149 = .ok (.iadd, 1) := by decide +kernel
theorem dX10_tick_150 : decode cX10_tick 150 = .ok (.iastore, 1) := by decide +kernel
theorem dX10_tick_151 : decode cX10_tick 151 = .ok (.aload_n 0, 1) := by decide +kernel
theorem dX10_tick_152 : decode cX10_tick 152 = .ok (.getfield 7, 3) := by decide +kernel
theorem dX10_tick_155 : decode cX10_tick 155 = .ok (.bipush 25, 2) := by decide +kernel
theorem dX10_tick_157 : decode cX10_tick 157 = .ok (.aload_n 0, 1) := by decide +kernel
theorem dX10_tick_158 : decode cX10_tick 158 = .ok (.getfield 7, 3) := by decide +kernel
theorem dX10_tick_161 : decode cX10_tick 161 = .ok (.bipush 16, 2) := by decide +kernel
theorem dX10_tick_163 : decode cX10_tick 163 = .ok (.iaload, 1) := by decide +kernel
theorem dX10_tick_164 : decode cX10_tick 164 = .ok (.aload_n 0, 1) := by decide +kernel
theorem dX10_tick_165 : decode cX10_tick 165 = .ok (.getfield 7, 3) := by decide +kernel
theorem dX10_tick_168 : decode cX10_tick 168 = .ok (.bipush 25, 2) := by decide +kernel
theorem dX10_tick_170 : decode cX10_tick 170 = .ok (.iaload, 1) := by decide +kernel
theorem dX10_tick_171 : decode cX10_tick 171 = .ok (.if_icmp .le 13, 3) := by decide +kernel
theorem dX10_tick_174 : decode cX10_tick 174 = .ok (.aload_n 0, 1) := by decide +kernel
theorem dX10_tick_175 : decode cX10_tick 175 = .ok (.getfield 7, 3) := by decide +kernel
theorem dX10_tick_178 : decode cX10_tick 178 = .ok (.bipush 16, 2) := by decide +kernel
theorem dX10_tick_180 : decode cX10_tick 180 = .ok (.iaload, 1) := by decide +kernel
theorem dX10_tick_181 : decode cX10_tick 181 = .ok (.goto 10, 3) := by decide +kernel
theorem dX10_tick_184 : decode cX10_tick 184 = .ok (.aload_n 0, 1) := by decide +kernel
theorem dX10_tick_185 : decode cX10_tick 185 = .ok (.getfield 7, 3) := by decide +kernel
theorem dX10_tick_188 : decode cX10_tick 188 = .ok (.bipush 25, 2) := by decide +kernel
theorem dX10_tick_190 : decode cX10_tick 190 = .ok (.iaload, 1) := by decide +kernel
theorem dX10_tick_191 : decode cX10_tick 191 = .ok (.iastore, 1) := by decide +kernel
theorem dX10_tick_192 : decode cX10_tick 192 = .ok (.aload_n 0, 1) := by decide +kernel
theorem dX10_tick_193 : decode cX10_tick 193 = .ok (.invokevirtual 113, 3) := by decide +kernel
theorem dX10_tick_196 : decode cX10_tick 196 = .ok (.aload_n 0, 1) := by decide +kernel
theorem dX10_tick_197 : decode cX10_tick 197 = .ok (.getfield 7, 3) := by decide +kernel
theorem dX10_tick_200 : decode cX10_tick 200 = .ok (.bipush 19, 2) := by decide +kernel
theorem dX10_tick_202 : decode cX10_tick 202 = .ok (.dup2, 1) := by decide +kernel
theorem dX10_tick_203 : decode cX10_tick 203 = .ok (.iaload, 1) := by decide +kernel
theorem dX10_tick_204 : decode cX10_tick 204 = .ok (.aload_n 0, 1) := by decide +kernel
theorem dX10_tick_205 : decode cX10_tick 205 = .ok (.aload_n 0, 1) := by decide +kernel
theorem dX10_tick_206 : decode cX10_tick 206 = .ok (.getfield 7, 3) := by decide +kernel
theorem dX10_tick_209 : decode cX10_tick 209 = .ok (.bipush 16, 2) := by decide +kernel
theorem dX10_tick_211 : decode cX10_tick 211 = .ok (.iaload, 1) := by decide +kernel
theorem dX10_tick_212 : decode cX10_tick 212 = .ok (.invokevirtual 116, 3) := by decide +kernel
theorem dX10_tick_215 : decode cX10_tick 215 = .ok (.iadd, 1) := by decide +kernel
theorem dX10_tick_216 : decode cX10_tick 216 = .ok (.iastore, 1) := by decide +kernel
theorem dX10_tick_217 : decode cX10_tick 217 = .ok (.goto 50, 3) := by decide +kernel
theorem dX10_tick_220 : decode cX10_tick 220 = .ok (.aload_n 0, 1) := by decide +kernel
theorem dX10_tick_221 : decode cX10_tick 221 = .ok (.getfield 7, 3) := by decide +kernel
theorem dX10_tick_224 : decode cX10_tick 224 = .ok (.iconst 1, 1) := by decide +kernel
theorem dX10_tick_225 : decode cX10_tick 225 = .ok (.iaload, 1) := by decide +kernel
theorem dX10_tick_226 : decode cX10_tick 226 = .ok (.iconst 2, 1) := by decide +kernel
theorem dX10_tick_227 : decode cX10_tick 227 = .ok (.if_icmp .ne 40, 3) := by decide +kernel
theorem dX10_tick_230 : decode cX10_tick 230 = .ok (.aload_n 0, 1) := by decide +kernel
theorem dX10_tick_231 : decode cX10_tick 231 = .ok (.getfield 7, 3) := by decide +kernel
theorem dX10_tick_234 : decode cX10_tick 234 = .ok (.bipush 16, 2) := by decide +kernel
theorem dX10_tick_236 : decode cX10_tick 236 = .ok (.dup2, 1) := by decide +kernel
theorem dX10_tick_237 : decode cX10_tick 237 = .ok (.iaload, 1) := by decide +kernel
theorem dX10_tick_238 : decode cX10_tick 238 = .ok (.aload_n 0, 1) := by decide +kernel
theorem dX10_tick_239 : decode cX10_tick 239 = .ok (.getfield 7, 3) := by decide +kernel
theorem dX10_tick_242 : decode cX10_tick 242 = .ok (.bipush 16, 2) := by decide +kernel
theorem dX10_tick_244 : decode cX10_tick 244 = .ok (.iaload, 1) := by decide +kernel
theorem dX10_tick_245 : decode cX10_tick 245 = .ok (.aload_n 0, 1) := by decide +kernel
theorem dX10_tick_246 : decode cX10_tick 246 = .ok (.getfield 7, 3) := by decide +kernel
theorem dX10_tick_249 : decode cX10_tick 249 = .ok (.iconst 3, 1) := by decide +kernel
theorem dX10_tick_250 : decode cX10_tick 250 = .ok (.iaload, 1) := by decide +kernel
theorem dX10_tick_251 : decode cX10_tick 251 = .ok (.isub, 1) := by decide +kernel
theorem dX10_tick_252 : decode cX10_tick 252 = .ok (.aload_n 0, 1) := by decide +kernel
theorem dX10_tick_253 : decode cX10_tick 253 = .ok (.getfield 7, 3) := by decide +kernel
theorem dX10_tick_256 : decode cX10_tick 256 = .ok (.bipush 8, 2) := by decide +kernel
theorem dX10_tick_258 : decode cX10_tick 258 = .ok (.iaload, 1) := by decide +kernel
theorem dX10_tick_259 : decode cX10_tick 259 = .ok (.imul, 1) := by decide +kernel
theorem dX10_tick_260 : decode cX10_tick 260 = .ok (.bipush 100, 2) := by decide +kernel
theorem dX10_tick_262 : decode cX10_tick 262 = .ok (.invokestatic 103, 3) := by decide +kernel
theorem dX10_tick_265 : decode cX10_tick 265 = .ok (.isub, 1) := by decide +kernel
theorem dX10_tick_266 : decode cX10_tick 266 = .ok (.iastore, 1) := by decide +kernel
theorem dX10_tick_267 : decode cX10_tick 267 = .ok (.aload_n 0, 1) := by decide +kernel
theorem dX10_tick_268 : decode cX10_tick 268 = .ok (.getfield 7, 3) := by decide +kernel
theorem dX10_tick_271 : decode cX10_tick 271 = .ok (.iconst 4, 1) := by decide +kernel
theorem dX10_tick_272 : decode cX10_tick 272 = .ok (.dup2, 1) := by decide +kernel
theorem dX10_tick_273 : decode cX10_tick 273 = .ok (.iaload, 1) := by decide +kernel
theorem dX10_tick_274 : decode cX10_tick 274 = .ok (.iload_n 1, 1) := by decide +kernel
theorem dX10_tick_275 : decode cX10_tick 275 = .ok (.ifCond .eq 13, 3) := by decide +kernel
theorem dX10_tick_278 : decode cX10_tick 278 = .ok (.aload_n 0, 1) := by decide +kernel
theorem dX10_tick_279 : decode cX10_tick 279 = .ok (.getfield 7, 3) := by decide +kernel
theorem dX10_tick_282 : decode cX10_tick 282 = .ok (.bipush 16, 2) := by decide +kernel
theorem dX10_tick_284 : decode cX10_tick 284 = .ok (.iaload, 1) := by decide +kernel
theorem dX10_tick_285 : decode cX10_tick 285 = .ok (.goto 9, 3) := by decide +kernel
theorem dX10_tick_288 : decode cX10_tick 288 = .ok (.aload_n 0, 1) := by decide +kernel
theorem dX10_tick_289 : decode cX10_tick 289 = .ok (.getfield 7, 3) := by decide +kernel
theorem dX10_tick_292 : decode cX10_tick 292 = .ok (.iconst 2, 1) := by decide +kernel
theorem dX10_tick_293 : decode cX10_tick 293 = .ok (.iaload, 1) := by decide +kernel
theorem dX10_tick_294 : decode cX10_tick 294 = .ok (.aload_n 0, 1) := by decide +kernel
theorem dX10_tick_295 : decode cX10_tick 295 = .ok (.getfield 7, 3) := by decide +kernel
theorem dX10_tick_298 : decode cX10_tick 298 = .ok (.iconst 4, 1) := by decide +kernel
theorem dX10_tick_299 : decode cX10_tick 299 = .ok (.iaload, 1) := by decide +kernel
theorem dX10_tick_300 : decode cX10_tick 300 = .ok (.isub, 1) := by decide +kernel
theorem dX10_tick_301 : decode cX10_tick 301 = .ok (.aload_n 0, 1) := by decide +kernel
theorem dX10_tick_302 : decode cX10_tick 302 = .ok (.getfield 7, 3) := by decide +kernel
theorem dX10_tick_305 : decode cX10_tick 305 = .ok (.iconst 5, 1) := by decide +kernel
theorem dX10_tick_306 : decode cX10_tick 306 = .ok (.iaload, 1) := by decide +kernel
theorem dX10_tick_307 : decode cX10_tick 307 = .ok (.invokestatic 103, 3) := by decide +kernel
theorem dX10_tick_310 : decode cX10_tick 310 = .ok (.iadd, 1) := by decide +kernel
theorem dX10_tick_311 : decode cX10_tick 311 = .ok (.iastore, 1) := by decide +kernel
theorem dX10_tick_312 : decode cX10_tick 312 = .ok (.iload_n 1, 1) := by decide +kernel
theorem dX10_tick_313 : decode cX10_tick 313 = .ok (.ifCond .eq 7, 3) := by decide +kernel
theorem dX10_tick_316 : decode cX10_tick 316 = .ok (.aload_n 0, 1) := by decide +kernel
theorem dX10_tick_317 : decode cX10_tick 317 = .ok (.invokevirtual 119, 3) := by decide +kernel
theorem dX10_tick_320 : decode cX10_tick 320 = .ok (.return_, 1) := by decide +kernel
theorem dX10_run_0 : decode cX10_run 0 = .ok (.aload_n 0, 1) := by decide +kernel
theorem dX10_run_1 : decode cX10_run 1 = .ok (.iconst 0, 1) := by decide +kernel
theorem dX10_run_2 : decode cX10_run 2 = .ok (.putfield 25, 3) := by decide +kernel
theorem dX10_run_5 : decode cX10_run 5 = .ok (.iload_n 1, 1) := by decide +kernel
theorem dX10_run_6 : decode cX10_run 6 = .ok (.iconst 1, 1) := by decide +kernel
theorem dX10_run_7 : decode cX10_run 7 = .ok (.sipush 200, 3) := by decide +kernel
theorem dX10_run_10 : decode cX10_run 10 = .ok (.invokestatic 39, 3) := by decide +kernel
theorem dX10_run_13 : decode cX10_run 13 = .ok (.ifCond .ne 6, 3) := by decide +kernel
theorem dX10_run_16 : decode cX10_run 16 = .ok (.ldc 47, 2) := by decide +kernel
theorem dX10_run_18 : decode cX10_run 18 = .ok (.ireturn, 1) := by decide +kernel
theorem dX10_run_19 : decode cX10_run 19 = .ok (.aload_n 0, 1) := by decide +kernel
theorem dX10_run_20 : decode cX10_run 20 = .ok (.getfield 7, 3) := by decide +kernel
theorem dX10_run_23 : decode cX10_run 23 = .ok (.iconst 0, 1) := by decide +kernel
theorem dX10_run_24 : decode cX10_run 24 = .ok (.iaload, 1) := by decide +kernel
theorem dX10_run_25 : decode cX10_run 25 = .ok (.iload_n 1, 1) := by decide +kernel
theorem dX10_run_26 : decode cX10_run 26 = .ok (.iadd, 1) := by decide +kernel
theorem dX10_run_27 : decode cX10_run 27 = .ok (.sipush 10000, 3) := by decide +kernel
theorem dX10_run_30 : decode cX10_run 30 = .ok (.if_icmp .le 6, 3) := by decide +kernel
theorem dX10_run_33 : decode cX10_run 33 = .ok (.ldc 56, 2) := by decide +kernel
theorem dX10_run_35 : decode cX10_run 35 = .ok (.ireturn, 1) := by decide +kernel
theorem dX10_run_36 : decode cX10_run 36 = .ok (.aload_n 0, 1) := by decide +kernel
theorem dX10_run_37 : decode cX10_run 37 = .ok (.invokevirtual 36, 3) := by decide +kernel
theorem dX10_run_40 : decode cX10_run 40 = .ok (.iconst 0, 1) := by decide +kernel
theorem dX10_run_41 : decode cX10_run 41 = .ok (.istore_n 2, 1) := by decide +kernel
theorem dX10_run_42 : decode cX10_run 42 = .ok (.iload_n 2, 1) := by decide +kernel
theorem dX10_run_43 : decode cX10_run 43 = .ok (.iload_n 1, 1) := by decide +kernel
theorem dX10_run_44 : decode cX10_run 44 = .ok (.if_icmp .ge 13, 3) := by decide +kernel
theorem dX10_run_47 : decode cX10_run 47 = .ok (.aload_n 0, 1) := by decide +kernel
theorem dX10_run_48 : decode cX10_run 48 = .ok (.invokevirtual 122, 3) := by decide +kernel
theorem dX10_run_51 : decode cX10_run 51 = .ok (.iinc 2 1, 3) := by decide +kernel
theorem dX10_run_54 : decode cX10_run 54 = .ok (.goto (-12), 3) := by decide +kernel
theorem dX10_run_57 : decode cX10_run 57 = .ok (.aload_n 0, 1) := by decide +kernel
theorem dX10_run_58 : decode cX10_run 58 = .ok (.getfield 7, 3) := by decide +kernel
theorem dX10_run_61 : decode cX10_run 61 = .ok (.iconst 4, 1) := by decide +kernel
theorem dX10_run_62 : decode cX10_run 62 = .ok (.iaload, 1) := by decide +kernel
theorem dX10_run_63 : decode cX10_run 63 = .ok (.ireturn, 1) := by decide +kernel
theorem dX10_undo_0 : decode cX10_undo 0 = .ok (.aload_n 0, 1) := by decide +kernel
theorem dX10_undo_1 : decode cX10_undo 1 = .ok (.iconst 0, 1) := by decide +kernel
theorem dX10_undo_2 : decode cX10_undo 2 = .ok (.putfield 25, 3) := by decide +kernel
theorem dX10_undo_5 : decode cX10_undo 5 = .ok (.aload_n 0, 1) := by decide +kernel
theorem dX10_undo_6 : decode cX10_undo 6 = .ok (.getfield 33, 3) := by decide +kernel
theorem dX10_undo_9 : decode cX10_undo 9 = .ok (.ifCond .ne 6, 3) := by decide +kernel
theorem dX10_undo_12 : decode cX10_undo 12 = .ok (.ldc 61, 2) := by decide +kernel
theorem dX10_undo_14 : decode cX10_undo 14 = .ok (.ireturn, 1) := by decide +kernel
theorem dX10_undo_15 : decode cX10_undo 15 = .ok (.aload_n 0, 1) := by decide +kernel
theorem dX10_undo_16 : decode cX10_undo 16 = .ok (.dup, 1) := by decide +kernel
theorem dX10_undo_17 : decode cX10_undo 17 = .ok (.getfield 33, 3) := by decide +kernel
theorem dX10_undo_20 : decode cX10_undo 20 = .ok (.iconst 1, 1) := by decide +kernel
theorem dX10_undo_21 : decode cX10_undo 21 = .ok (.isub, 1) := by decide +kernel
theorem dX10_undo_22 : decode cX10_undo 22 = .ok (.putfield 33, 3) := by decide +kernel
theorem dX10_undo_25 : decode cX10_undo 25 = .ok (.iconst 0, 1) := by decide +kernel
theorem dX10_undo_26 : decode cX10_undo 26 = .ok (.istore_n 1, 1) := by decide +kernel
theorem dX10_undo_27 : decode cX10_undo 27 = .ok (.iload_n 1, 1) := by decide +kernel
theorem dX10_undo_28 : decode cX10_undo 28 = .ok (.bipush 112, 2) := by decide +kernel
theorem dX10_undo_30 : decode cX10_undo 30 = .ok (.if_icmp .ge 29, 3) := by decide +kernel
theorem dX10_undo_33 : decode cX10_undo 33 = .ok (.aload_n 0, 1) := by decide +kernel
theorem dX10_undo_34 : decode cX10_undo 34 = .ok (.getfield 7, 3) := by decide +kernel
theorem dX10_undo_37 : decode cX10_undo 37 = .ok (.iload_n 1, 1) := by decide +kernel
theorem dX10_undo_38 : decode cX10_undo 38 = .ok (.aload_n 0, 1) := by decide +kernel
theorem dX10_undo_39 : decode cX10_undo 39 = .ok (.getfield 16, 3) := by decide +kernel
theorem dX10_undo_42 : decode cX10_undo 42 = .ok (.bipush 112, 2) := by decide +kernel
theorem dX10_undo_44 : decode cX10_undo 44 = .ok (.aload_n 0, 1) := by decide +kernel
theorem dX10_undo_45 : decode cX10_undo 45 = .ok (.getfield 33, 3) := by decide +kernel
theorem dX10_undo_48 : decode cX10_undo 48 = .ok (.imul, 1) := by decide +kernel
theorem dX10_undo_49 : decode cX10_undo 49 = .ok (.iload_n 1, 1) := by decide +kernel
theorem dX10_undo_50 : decode cX10_undo 50 = .ok (.iadd, 1) := by decide +kernel
theorem dX10_undo_51 : decode cX10_undo 51 = .ok (.iaload, 1) := by decide +kernel
theorem dX10_undo_52 : decode cX10_undo 52 = .ok (.iastore, 1) := by decide +kernel
theorem dX10_undo_53 : decode cX10_undo 53 = .ok (.iinc 1 1, 3) := by decide +kernel
theorem dX10_undo_56 : decode cX10_undo 56 = .ok (.goto (-29), 3) := by decide +kernel
theorem dX10_undo_59 : decode cX10_undo 59 = .ok (.aload_n 0, 1) := by decide +kernel
theorem dX10_undo_60 : decode cX10_undo 60 = .ok (.getfield 33, 3) := by decide +kernel
theorem dX10_undo_63 : decode cX10_undo 63 = .ok (.ireturn, 1) := by decide +kernel
theorem dX10_count_0 : decode cX10_count 0 = .ok (.aload_n 0, 1) := by decide +kernel
theorem dX10_count_1 : decode cX10_count 1 = .ok (.iconst 0, 1) := by decide +kernel
theorem dX10_count_2 : decode cX10_count 2 = .ok (.putfield 25, 3) := by decide +kernel
theorem dX10_count_5 : decode cX10_count 5 = .ok (.iload_n 1, 1) := by decide +kernel
theorem dX10_count_6 : decode cX10_count 6 = .ok (.tableswitch 144 0 12 #[66, 66, 66, 73, 80, 87, 95, 102, 110, 118, 126, 134, 139], 66) := by decide +kernel
theorem dX10_count_72 : decode cX10_count 72 = .ok (.aload_n 0, 1) := by decide +kernel
theorem dX10_count_73 : decode cX10_count 73 = .ok (.getfield 7, 3) := by decide +kernel
theorem dX10_count_76 : decode cX10_count 76 = .ok (.iload_n 1, 1) := by decide +kernel
theorem dX10_count_77 : decode cX10_count 77 = .ok (.iaload, 1) := by decide +kernel
theorem dX10_count_78 : decode cX10_count 78 = .ok (.ireturn, 1) := by decide +kernel
theorem dX10_count_79 : decode cX10_count 79 = .ok (.aload_n 0, 1) := by decide +kernel
theorem dX10_count_80 : decode cX10_count 80 = .ok (.getfield 7, 3) := by decide +kernel
theorem dX10_count_83 : decode cX10_count 83 = .ok (.iconst 4, 1) := by decide +kernel
theorem dX10_count_84 : decode cX10_count 84 = .ok (.iaload, 1) := by decide +kernel
theorem dX10_count_85 : decode cX10_count 85 = .ok (.ireturn, 1) := by decide +kernel
theorem dX10_count_86 : decode cX10_count 86 = .ok (.aload_n 0, 1) := by decide +kernel
theorem dX10_count_87 : decode cX10_count 87 = .ok (.getfield 7, 3) := by decide +kernel
theorem dX10_count_90 : decode cX10_count 90 = .ok (.iconst 3, 1) := by decide +kernel
theorem dX10_count_91 : decode cX10_count 91 = .ok (.iaload, 1) := by decide +kernel
theorem dX10_count_92 : decode cX10_count 92 = .ok (.ireturn, 1) := by decide +kernel
theorem dX10_count_93 : decode cX10_count 93 = .ok (.aload_n 0, 1) := by decide +kernel
theorem dX10_count_94 : decode cX10_count 94 = .ok (.getfield 7, 3) := by decide +kernel
theorem dX10_count_97 : decode cX10_count 97 = .ok (.bipush 7, 2) := by decide +kernel
theorem dX10_count_99 : decode cX10_count 99 = .ok (.iaload, 1) := by decide +kernel
theorem dX10_count_100 : decode cX10_count 100 = .ok (.ireturn, 1) := by decide +kernel
theorem dX10_count_101 : decode cX10_count 101 = .ok (.aload_n 0, 1) := by decide +kernel
theorem dX10_count_102 : decode cX10_count 102 = .ok (.getfield 7, 3) := by decide +kernel
theorem dX10_count_105 : decode cX10_count 105 = .ok (.iconst 5, 1) := by decide +kernel
theorem dX10_count_106 : decode cX10_count 106 = .ok (.iaload, 1) := by decide +kernel
theorem dX10_count_107 : decode cX10_count 107 = .ok (.ireturn, 1) := by decide +kernel
theorem dX10_count_108 : decode cX10_count 108 = .ok (.aload_n 0, 1) := by decide +kernel
theorem dX10_count_109 : decode cX10_count 109 = .ok (.getfield 7, 3) := by decide +kernel
theorem dX10_count_112 : decode cX10_count 112 = .ok (.bipush 13, 2) := by decide +kernel
theorem dX10_count_114 : decode cX10_count 114 = .ok (.iaload, 1) := by decide +kernel
theorem dX10_count_115 : decode cX10_count 115 = .ok (.ireturn, 1) := by decide +kernel
theorem dX10_count_116 : decode cX10_count 116 = .ok (.aload_n 0, 1) := by decide +kernel
theorem dX10_count_117 : decode cX10_count 117 = .ok (.getfield 7, 3) := by decide +kernel
theorem dX10_count_120 : decode cX10_count 120 = .ok (.bipush 32, 2) := by decide +kernel
theorem dX10_count_122 : decode cX10_count 122 = .ok (.iaload, 1) := by decide +kernel
theorem dX10_count_123 : decode cX10_count 123 = .ok (.ireturn, 1) := by decide +kernel
theorem dX10_count_124 : decode cX10_count 124 = .ok (.aload_n 0, 1) := by decide +kernel
theorem dX10_count_125 : decode cX10_count 125 = .ok (.getfield 7, 3) := by decide +kernel
theorem dX10_count_128 : decode cX10_count 128 = .ok (.bipush 49, 2) := by decide +kernel
theorem dX10_count_130 : decode cX10_count 130 = .ok (.iaload, 1) := by decide +kernel
theorem dX10_count_131 : decode cX10_count 131 = .ok (.ireturn, 1) := by decide +kernel
theorem dX10_count_132 : decode cX10_count 132 = .ok (.aload_n 0, 1) := by decide +kernel
theorem dX10_count_133 : decode cX10_count 133 = .ok (.getfield 7, 3) := by decide +kernel
theorem dX10_count_136 : decode cX10_count 136 = .ok (.bipush 63, 2) := by decide +kernel
theorem dX10_count_138 : decode cX10_count 138 = .ok (.iaload, 1) := by decide +kernel
theorem dX10_count_139 : decode cX10_count 139 = .ok (.ireturn, 1) := by decide +kernel
theorem dX10_count_140 : decode cX10_count 140 = .ok (.aload_n 0, 1) := by decide +kernel
theorem dX10_count_141 : decode cX10_count 141 = .ok (.getfield 33, 3) := by decide +kernel
theorem dX10_count_144 : decode cX10_count 144 = .ok (.ireturn, 1) := by decide +kernel
theorem dX10_count_145 : decode cX10_count 145 = .ok (.aload_n 0, 1) := by decide +kernel
theorem dX10_count_146 : decode cX10_count 146 = .ok (.getfield 65, 3) := by decide +kernel
theorem dX10_count_149 : decode cX10_count 149 = .ok (.ireturn, 1) := by decide +kernel
theorem dX10_count_150 : decode cX10_count 150 = .ok (.ldc 47, 2) := by decide +kernel
theorem dX10_count_152 : decode cX10_count 152 = .ok (.ireturn, 1) := by decide +kernel
theorem dX10_batch_0 : decode cX10_batch 0 = .ok (.aload_n 0, 1) := by decide +kernel
theorem dX10_batch_1 : decode cX10_batch 1 = .ok (.iconst 0, 1) := by decide +kernel
theorem dX10_batch_2 : decode cX10_batch 2 = .ok (.putfield 25, 3) := by decide +kernel
theorem dX10_batch_5 : decode cX10_batch 5 = .ok (.iload_n 1, 1) := by decide +kernel
theorem dX10_batch_6 : decode cX10_batch 6 = .ok (.iconst 0, 1) := by decide +kernel
theorem dX10_batch_7 : decode cX10_batch 7 = .ok (.bipush 9, 2) := by decide +kernel
theorem dX10_batch_9 : decode cX10_batch 9 = .ok (.invokestatic 39, 3) := by decide +kernel
theorem dX10_batch_12 : decode cX10_batch 12 = .ok (.ifCond .ne 6, 3) := by decide +kernel
theorem dX10_batch_15 : decode cX10_batch 15 = .ok (.ldc 47, 2) := by decide +kernel
theorem dX10_batch_17 : decode cX10_batch 17 = .ok (.ireturn, 1) := by decide +kernel
theorem dX10_batch_18 : decode cX10_batch 18 = .ok (.aload_n 0, 1) := by decide +kernel
theorem dX10_batch_19 : decode cX10_batch 19 = .ok (.getfield 7, 3) := by decide +kernel
theorem dX10_batch_22 : decode cX10_batch 22 = .ok (.iconst 1, 1) := by decide +kernel
theorem dX10_batch_23 : decode cX10_batch 23 = .ok (.iaload, 1) := by decide +kernel
theorem dX10_batch_24 : decode cX10_batch 24 = .ok (.ifCond .ne 8, 3) := by decide +kernel
theorem dX10_batch_27 : decode cX10_batch 27 = .ok (.ldc 61, 2) := by decide +kernel
theorem dX10_batch_29 : decode cX10_batch 29 = .ok (.goto 12, 3) := by decide +kernel
theorem dX10_batch_32 : decode cX10_batch 32 = .ok (.aload_n 0, 1) := by decide +kernel
theorem dX10_batch_33 : decode cX10_batch 33 = .ok (.getfield 7, 3) := by decide +kernel
theorem dX10_batch_36 : decode cX10_batch 36 = .ok (.bipush 16, 2) := by decide +kernel
theorem dX10_batch_38 : decode cX10_batch 38 = .ok (.iload_n 1, 1) := by decide +kernel
theorem dX10_batch_39 : decode cX10_batch 39 = .ok (.iadd, 1) := by decide +kernel
theorem dX10_batch_40 : decode cX10_batch 40 = .ok (.iaload, 1) := by decide +kernel
theorem dX10_batch_41 : decode cX10_batch 41 = .ok (.ireturn, 1) := by decide +kernel
theorem dX10_target_0 : decode cX10_target 0 = .ok (.aload_n 0, 1) := by decide +kernel
theorem dX10_target_1 : decode cX10_target 1 = .ok (.iconst 0, 1) := by decide +kernel
theorem dX10_target_2 : decode cX10_target 2 = .ok (.putfield 25, 3) := by decide +kernel
theorem dX10_target_5 : decode cX10_target 5 = .ok (.iload_n 1, 1) := by decide +kernel
theorem dX10_target_6 : decode cX10_target 6 = .ok (.iconst 0, 1) := by decide +kernel
theorem dX10_target_7 : decode cX10_target 7 = .ok (.sipush 1000, 3) := by decide +kernel
theorem dX10_target_10 : decode cX10_target 10 = .ok (.invokestatic 39, 3) := by decide +kernel
theorem dX10_target_13 : decode cX10_target 13 = .ok (.ifCond .eq 11, 3) := by decide +kernel
theorem dX10_target_16 : decode cX10_target 16 = .ok (.aload_n 0, 1) := by decide +kernel
theorem dX10_target_17 : decode cX10_target 17 = .ok (.iload_n 1, 1) := by decide +kernel
theorem dX10_target_18 : decode cX10_target 18 = .ok (.invokevirtual 106, 3) := by decide +kernel
theorem dX10_target_21 : decode cX10_target 21 = .ok (.goto 5, 3) := by decide +kernel
theorem dX10_target_24 : decode cX10_target 24 = .ok (.ldc 47, 2) := by decide +kernel
theorem dX10_target_26 : decode cX10_target 26 = .ok (.ireturn, 1) := by decide +kernel
theorem dX10_rate_0 : decode cX10_rate 0 = .ok (.aload_n 0, 1) := by decide +kernel
theorem dX10_rate_1 : decode cX10_rate 1 = .ok (.iconst 0, 1) := by decide +kernel
theorem dX10_rate_2 : decode cX10_rate 2 = .ok (.putfield 25, 3) := by decide +kernel
theorem dX10_rate_5 : decode cX10_rate 5 = .ok (.iload_n 1, 1) := by decide +kernel
theorem dX10_rate_6 : decode cX10_rate 6 = .ok (.iconst 0, 1) := by decide +kernel
theorem dX10_rate_7 : decode cX10_rate 7 = .ok (.sipush 3000, 3) := by decide +kernel
theorem dX10_rate_10 : decode cX10_rate 10 = .ok (.invokestatic 39, 3) := by decide +kernel
theorem dX10_rate_13 : decode cX10_rate 13 = .ok (.ifCond .eq 11, 3) := by decide +kernel
theorem dX10_rate_16 : decode cX10_rate 16 = .ok (.aload_n 0, 1) := by decide +kernel
theorem dX10_rate_17 : decode cX10_rate 17 = .ok (.iload_n 1, 1) := by decide +kernel
theorem dX10_rate_18 : decode cX10_rate 18 = .ok (.invokevirtual 116, 3) := by decide +kernel
theorem dX10_rate_21 : decode cX10_rate 21 = .ok (.goto 5, 3) := by decide +kernel
theorem dX10_rate_24 : decode cX10_rate 24 = .ok (.ldc 47, 2) := by decide +kernel
theorem dX10_rate_26 : decode cX10_rate 26 = .ok (.ireturn, 1) := by decide +kernel
theorem dX10_logged_0 : decode cX10_logged 0 = .ok (.aload_n 0, 1) := by decide +kernel
theorem dX10_logged_1 : decode cX10_logged 1 = .ok (.iconst 0, 1) := by decide +kernel
theorem dX10_logged_2 : decode cX10_logged 2 = .ok (.putfield 25, 3) := by decide +kernel
theorem dX10_logged_5 : decode cX10_logged 5 = .ok (.iload_n 1, 1) := by decide +kernel
theorem dX10_logged_6 : decode cX10_logged 6 = .ok (.ifCond .lt 12, 3) := by decide +kernel
theorem dX10_logged_9 : decode cX10_logged 9 = .ok (.iload_n 2, 1) := by decide +kernel
theorem dX10_logged_10 : decode cX10_logged 10 = .ok (.iconst 0, 1) := by decide +kernel
theorem dX10_logged_11 : decode cX10_logged 11 = .ok (.iconst 5, 1) := by decide +kernel
theorem dX10_logged_12 : decode cX10_logged 12 = .ok (.invokestatic 39, 3) := by decide +kernel
theorem dX10_logged_15 : decode cX10_logged 15 = .ok (.ifCond .ne 6, 3) := by decide +kernel
theorem dX10_logged_18 : decode cX10_logged 18 = .ok (.ldc 47, 2) := by decide +kernel
theorem dX10_logged_20 : decode cX10_logged 20 = .ok (.ireturn, 1) := by decide +kernel
theorem dX10_logged_21 : decode cX10_logged 21 = .ok (.iload_n 1, 1) := by decide +kernel
theorem dX10_logged_22 : decode cX10_logged 22 = .ok (.aload_n 0, 1) := by decide +kernel
theorem dX10_logged_23 : decode cX10_logged 23 = .ok (.getfield 7, 3) := by decide +kernel
theorem dX10_logged_26 : decode cX10_logged 26 = .ok (.bipush 63, 2) := by decide +kernel
theorem dX10_logged_28 : decode cX10_logged 28 = .ok (.iaload, 1) := by decide +kernel
theorem dX10_logged_29 : decode cX10_logged 29 = .ok (.if_icmp .ge 20, 3) := by decide +kernel
theorem dX10_logged_32 : decode cX10_logged 32 = .ok (.aload_n 0, 1) := by decide +kernel
theorem dX10_logged_33 : decode cX10_logged 33 = .ok (.getfield 7, 3) := by decide +kernel
theorem dX10_logged_36 : decode cX10_logged 36 = .ok (.bipush 64, 2) := by decide +kernel
theorem dX10_logged_38 : decode cX10_logged 38 = .ok (.bipush 6, 2) := by decide +kernel
theorem dX10_logged_40 : decode cX10_logged 40 = .ok (.iload_n 1, 1) := by decide +kernel
theorem dX10_logged_41 : decode cX10_logged 41 = .ok (.imul, 1) := by decide +kernel
theorem dX10_logged_42 : decode cX10_logged 42 = .ok (.iadd, 1) := by decide +kernel
theorem dX10_logged_43 : decode cX10_logged 43 = .ok (.iload_n 2, 1) := by decide +kernel
theorem dX10_logged_44 : decode cX10_logged 44 = .ok (.iadd, 1) := by decide +kernel
theorem dX10_logged_45 : decode cX10_logged 45 = .ok (.iaload, 1) := by decide +kernel
theorem dX10_logged_46 : decode cX10_logged 46 = .ok (.goto 5, 3) := by decide +kernel
theorem dX10_logged_49 : decode cX10_logged 49 = .ok (.ldc 81, 2) := by decide +kernel
theorem dX10_logged_51 : decode cX10_logged 51 = .ok (.ireturn, 1) := by decide +kernel
theorem dX10_drift_0 : decode cX10_drift 0 = .ok (.aload_n 0, 1) := by decide +kernel
theorem dX10_drift_1 : decode cX10_drift 1 = .ok (.iconst 0, 1) := by decide +kernel
theorem dX10_drift_2 : decode cX10_drift 2 = .ok (.putfield 25, 3) := by decide +kernel
theorem dX10_drift_5 : decode cX10_drift 5 = .ok (.iload_n 1, 1) := by decide +kernel
theorem dX10_drift_6 : decode cX10_drift 6 = .ok (.iconst 1, 1) := by decide +kernel
theorem dX10_drift_7 : decode cX10_drift 7 = .ok (.iconst 5, 1) := by decide +kernel
theorem dX10_drift_8 : decode cX10_drift 8 = .ok (.invokestatic 39, 3) := by decide +kernel
theorem dX10_drift_11 : decode cX10_drift 11 = .ok (.ifCond .ne 6, 3) := by decide +kernel
theorem dX10_drift_14 : decode cX10_drift 14 = .ok (.ldc 47, 2) := by decide +kernel
theorem dX10_drift_16 : decode cX10_drift 16 = .ok (.ireturn, 1) := by decide +kernel
theorem dX10_drift_17 : decode cX10_drift 17 = .ok (.lconst 0, 1) := by decide +kernel
theorem dX10_drift_18 : decode cX10_drift 18 = .ok (.lstore_n 2, 1) := by decide +kernel
theorem dX10_drift_19 : decode cX10_drift 19 = .ok (.lconst 0, 1) := by decide +kernel
theorem dX10_drift_20 : decode cX10_drift 20 = .ok (.lstore 4, 2) := by decide +kernel
theorem dX10_drift_22 : decode cX10_drift 22 = .ok (.lconst 0, 1) := by decide +kernel
theorem dX10_drift_23 : decode cX10_drift 23 = .ok (.lstore 6, 2) := by decide +kernel
theorem dX10_drift_25 : decode cX10_drift 25 = .ok (.lconst 0, 1) := by decide +kernel
theorem dX10_drift_26 : decode cX10_drift 26 = .ok (.lstore 8, 2) := by decide +kernel
theorem dX10_drift_28 : decode cX10_drift 28 = .ok (.lconst 0, 1) := by decide +kernel
theorem dX10_drift_29 : decode cX10_drift 29 = .ok (.lstore 10, 2) := by decide +kernel
theorem dX10_drift_31 : decode cX10_drift 31 = .ok (.iconst 0, 1) := by decide +kernel
theorem dX10_drift_32 : decode cX10_drift 32 = .ok (.istore 12, 2) := by decide +kernel
theorem dX10_drift_34 : decode cX10_drift 34 = .ok (.iload 12, 2) := by decide +kernel
theorem dX10_drift_36 : decode cX10_drift 36 = .ok (.aload_n 0, 1) := by decide +kernel
theorem dX10_drift_37 : decode cX10_drift 37 = .ok (.getfield 7, 3) := by decide +kernel
theorem dX10_drift_40 : decode cX10_drift 40 = .ok (.bipush 63, 2) := by decide +kernel
theorem dX10_drift_42 : decode cX10_drift 42 = .ok (.iaload, 1) := by decide +kernel
theorem dX10_drift_43 : decode cX10_drift 43 = .ok (.if_icmp .ge 90, 3) := by decide +kernel
theorem dX10_drift_46 : decode cX10_drift 46 = .ok (.aload_n 0, 1) := by decide +kernel
theorem dX10_drift_47 : decode cX10_drift 47 = .ok (.getfield 7, 3) := by decide +kernel
theorem dX10_drift_50 : decode cX10_drift 50 = .ok (.bipush 64, 2) := by decide +kernel
theorem dX10_drift_52 : decode cX10_drift 52 = .ok (.bipush 6, 2) := by decide +kernel
theorem dX10_drift_54 : decode cX10_drift 54 = .ok (.iload 12, 2) := by decide +kernel
theorem dX10_drift_56 : decode cX10_drift 56 = .ok (.imul, 1) := by decide +kernel
theorem dX10_drift_57 : decode cX10_drift 57 = .ok (.iadd, 1) := by decide +kernel
theorem dX10_drift_58 : decode cX10_drift 58 = .ok (.iaload, 1) := by decide +kernel
theorem dX10_drift_59 : decode cX10_drift 59 = .ok (.i2l, 1) := by decide +kernel
theorem dX10_drift_60 : decode cX10_drift 60 = .ok (.lstore 13, 2) := by decide +kernel
theorem dX10_drift_62 : decode cX10_drift 62 = .ok (.aload_n 0, 1) := by decide +kernel
theorem dX10_drift_63 : decode cX10_drift 63 = .ok (.getfield 7, 3) := by decide +kernel
theorem dX10_drift_66 : decode cX10_drift 66 = .ok (.bipush 64, 2) := by decide +kernel
theorem dX10_drift_68 : decode cX10_drift 68 = .ok (.bipush 6, 2) := by decide +kernel
theorem dX10_drift_70 : decode cX10_drift 70 = .ok (.iload 12, 2) := by decide +kernel
theorem dX10_drift_72 : decode cX10_drift 72 = .ok (.imul, 1) := by decide +kernel
theorem dX10_drift_73 : decode cX10_drift 73 = .ok (.iadd, 1) := by decide +kernel
theorem dX10_drift_74 : decode cX10_drift 74 = .ok (.iload_n 1, 1) := by decide +kernel
theorem dX10_drift_75 : decode cX10_drift 75 = .ok (.iadd, 1) := by decide +kernel
theorem dX10_drift_76 : decode cX10_drift 76 = .ok (.iaload, 1) := by decide +kernel
theorem dX10_drift_77 : decode cX10_drift 77 = .ok (.i2l, 1) := by decide +kernel
theorem dX10_drift_78 : decode cX10_drift 78 = .ok (.lstore 15, 2) := by decide +kernel
theorem dX10_drift_80 : decode cX10_drift 80 = .ok (.lload 15, 2) := by decide +kernel
theorem dX10_drift_82 : decode cX10_drift 82 = .ok (.ldc2_w 125, 3) := by decide +kernel
theorem dX10_drift_85 : decode cX10_drift 85 = .ok (.lcmp, 1) := by decide +kernel
theorem dX10_drift_86 : decode cX10_drift 86 = .ok (.ifCond .eq 41, 3) := by decide +kernel
theorem dX10_drift_89 : decode cX10_drift 89 = .ok (.lload_n 2, 1) := by decide +kernel
theorem dX10_drift_90 : decode cX10_drift 90 = .ok (.lconst 1, 1) := by decide +kernel
theorem dX10_drift_91 : decode cX10_drift 91 = .ok (.ladd, 1) := by decide +kernel
theorem dX10_drift_92 : decode cX10_drift 92 = .ok (.lstore_n 2, 1) := by decide +kernel
theorem dX10_drift_93 : decode cX10_drift 93 = .ok (.lload 4, 2) := by decide +kernel
theorem dX10_drift_95 : decode cX10_drift 95 = .ok (.lload 13, 2) := by decide +kernel
theorem dX10_drift_97 : decode cX10_drift 97 = .ok (.ladd, 1) := by decide +kernel
theorem dX10_drift_98 : decode cX10_drift 98 = .ok (.lstore 4, 2) := by decide +kernel
theorem dX10_drift_100 : decode cX10_drift 100 = .ok (.lload 6, 2) := by decide +kernel
theorem dX10_drift_102 : decode cX10_drift 102 = .ok (.lload 15, 2) := by decide +kernel
theorem dX10_drift_104 : decode cX10_drift 104 = .ok (.ladd, 1) := by decide +kernel
theorem dX10_drift_105 : decode cX10_drift 105 = .ok (.lstore 6, 2) := by decide +kernel
theorem dX10_drift_107 : decode cX10_drift 107 = .ok (.lload 8, 2) := by decide +kernel
theorem dX10_drift_109 : decode cX10_drift 109 = .ok (.lload 13, 2) := by decide +kernel
theorem dX10_drift_111 : decode cX10_drift 111 = .ok (.lload 15, 2) := by decide +kernel
theorem dX10_drift_113 : decode cX10_drift 113 = .ok (.lmul, 1) := by decide +kernel
theorem dX10_drift_114 : decode cX10_drift 114 = .ok (.ladd, 1) := by decide +kernel
theorem dX10_drift_115 : decode cX10_drift 115 = .ok (.lstore 8, 2) := by decide +kernel
theorem dX10_drift_117 : decode cX10_drift 117 = .ok (.lload 10, 2) := by decide +kernel
theorem dX10_drift_119 : decode cX10_drift 119 = .ok (.lload 13, 2) := by decide +kernel
theorem dX10_drift_121 : decode cX10_drift 121 = .ok (.lload 13, 2) := by decide +kernel
theorem dX10_drift_123 : decode cX10_drift 123 = .ok (.lmul, 1) := by decide +kernel
theorem dX10_drift_124 : decode cX10_drift 124 = .ok (.ladd, 1) := by decide +kernel
theorem dX10_drift_125 : decode cX10_drift 125 = .ok (.lstore 10, 2) := by decide +kernel
theorem dX10_drift_127 : decode cX10_drift 127 = .ok (.iinc 12 1, 3) := by decide +kernel
theorem dX10_drift_130 : decode cX10_drift 130 = .ok (.goto (-96), 3) := by decide +kernel
theorem dX10_drift_133 : decode cX10_drift 133 = .ok (.lload_n 2, 1) := by decide +kernel
theorem dX10_drift_134 : decode cX10_drift 134 = .ok (.ldc2_w 127, 3) := by decide +kernel
theorem dX10_drift_137 : decode cX10_drift 137 = .ok (.lcmp, 1) := by decide +kernel
theorem dX10_drift_138 : decode cX10_drift 138 = .ok (.ifCond .ge 6, 3) := by decide +kernel
theorem dX10_drift_141 : decode cX10_drift 141 = .ok (.ldc 81, 2) := by decide +kernel
theorem dX10_drift_143 : decode cX10_drift 143 = .ok (.ireturn, 1) := by decide +kernel
theorem dX10_drift_144 : decode cX10_drift 144 = .ok (.ldc2_w 129, 3) := by decide +kernel
theorem dX10_drift_147 : decode cX10_drift 147 = .ok (.lload_n 2, 1) := by decide +kernel
theorem dX10_drift_148 : decode cX10_drift 148 = .ok (.lload 8, 2) := by decide +kernel
theorem dX10_drift_150 : decode cX10_drift 150 = .ok (.lmul, 1) := by decide +kernel
theorem dX10_drift_151 : decode cX10_drift 151 = .ok (.lload 4, 2) := by decide +kernel
theorem dX10_drift_153 : decode cX10_drift 153 = .ok (.lload 6, 2) := by decide +kernel
theorem dX10_drift_155 : decode cX10_drift 155 = .ok (.lmul, 1) := by decide +kernel
theorem dX10_drift_156 : decode cX10_drift 156 = .ok (.lsub, 1) := by decide +kernel
theorem dX10_drift_157 : decode cX10_drift 157 = .ok (.lmul, 1) := by decide +kernel
theorem dX10_drift_158 : decode cX10_drift 158 = .ok (.lstore 12, 2) := by decide +kernel
theorem dX10_drift_160 : decode cX10_drift 160 = .ok (.lload_n 2, 1) := by decide +kernel
theorem dX10_drift_161 : decode cX10_drift 161 = .ok (.lload 10, 2) := by decide +kernel
theorem dX10_drift_163 : decode cX10_drift 163 = .ok (.lmul, 1) := by decide +kernel
theorem dX10_drift_164 : decode cX10_drift 164 = .ok (.lload 4, 2) := by decide +kernel
theorem dX10_drift_166 : decode cX10_drift 166 = .ok (.lload 4, 2) := by decide +kernel
theorem dX10_drift_168 : decode cX10_drift 168 = .ok (.lmul, 1) := by decide +kernel
theorem dX10_drift_169 : decode cX10_drift 169 = .ok (.lsub, 1) := by decide +kernel
theorem dX10_drift_170 : decode cX10_drift 170 = .ok (.lstore 14, 2) := by decide +kernel
theorem dX10_drift_172 : decode cX10_drift 172 = .ok (.lload 12, 2) := by decide +kernel
theorem dX10_drift_174 : decode cX10_drift 174 = .ok (.lload 14, 2) := by decide +kernel
theorem dX10_drift_176 : decode cX10_drift 176 = .ok (.ldiv, 1) := by decide +kernel
theorem dX10_drift_177 : decode cX10_drift 177 = .ok (.lstore 16, 2) := by decide +kernel
theorem dX10_drift_179 : decode cX10_drift 179 = .ok (.lload 12, 2) := by decide +kernel
theorem dX10_drift_181 : decode cX10_drift 181 = .ok (.lload 14, 2) := by decide +kernel
theorem dX10_drift_183 : decode cX10_drift 183 = .ok (.lrem, 1) := by decide +kernel
theorem dX10_drift_184 : decode cX10_drift 184 = .ok (.lconst 0, 1) := by decide +kernel
theorem dX10_drift_185 : decode cX10_drift 185 = .ok (.lcmp, 1) := by decide +kernel
theorem dX10_drift_186 : decode cX10_drift 186 = .ok (.ifCond .ge 10, 3) := by decide +kernel
theorem dX10_drift_189 : decode cX10_drift 189 = .ok (.lload 16, 2) := by decide +kernel
theorem dX10_drift_191 : decode cX10_drift 191 = .ok (.lconst 1, 1) := by decide +kernel
theorem dX10_drift_192 : decode cX10_drift 192 = .ok (.lsub, 1) := by decide +kernel
theorem dX10_drift_193 : decode cX10_drift 193 = .ok (.goto 5, 3) := by decide +kernel
theorem dX10_drift_196 : decode cX10_drift 196 = .ok (.lload 16, 2) := by decide +kernel
theorem dX10_drift_198 : decode cX10_drift 198 = .ok (.l2i, 1) := by decide +kernel
theorem dX10_drift_199 : decode cX10_drift 199 = .ok (.ireturn, 1) := by decide +kernel
theorem dX10_ticksUntil_0 : decode cX10_ticksUntil 0 = .ok (.aload_n 0, 1) := by decide +kernel
theorem dX10_ticksUntil_1 : decode cX10_ticksUntil 1 = .ok (.invokevirtual 85, 3) := by decide +kernel
theorem dX10_ticksUntil_4 : decode cX10_ticksUntil 4 = .ok (.aload_n 0, 1) := by decide +kernel
theorem dX10_ticksUntil_5 : decode cX10_ticksUntil 5 = .ok (.getfield 7, 3) := by decide +kernel
theorem dX10_ticksUntil_8 : decode cX10_ticksUntil 8 = .ok (.iload_n 1, 1) := by decide +kernel
theorem dX10_ticksUntil_9 : decode cX10_ticksUntil 9 = .ok (.iaload, 1) := by decide +kernel
theorem dX10_ticksUntil_10 : decode cX10_ticksUntil 10 = .ok (.iload_n 2, 1) := by decide +kernel
theorem dX10_ticksUntil_11 : decode cX10_ticksUntil 11 = .ok (.if_icmp .lt 7, 3) := by decide +kernel
theorem dX10_ticksUntil_14 : decode cX10_ticksUntil 14 = .ok (.iconst 0, 1) := by decide +kernel
theorem dX10_ticksUntil_15 : decode cX10_ticksUntil 15 = .ok (.goto 5, 3) := by decide +kernel
theorem dX10_ticksUntil_18 : decode cX10_ticksUntil 18 = .ok (.ldc 81, 2) := by decide +kernel
theorem dX10_ticksUntil_20 : decode cX10_ticksUntil 20 = .ok (.istore_n 3, 1) := by decide +kernel
theorem dX10_ticksUntil_21 : decode cX10_ticksUntil 21 = .ok (.iconst 1, 1) := by decide +kernel
theorem dX10_ticksUntil_22 : decode cX10_ticksUntil 22 = .ok (.istore 4, 2) := by decide +kernel
theorem dX10_ticksUntil_24 : decode cX10_ticksUntil 24 = .ok (.iload 4, 2) := by decide +kernel
theorem dX10_ticksUntil_26 : decode cX10_ticksUntil 26 = .ok (.sipush 200, 3) := by decide +kernel
theorem dX10_ticksUntil_29 : decode cX10_ticksUntil 29 = .ok (.if_icmp .gt 37, 3) := by decide +kernel
theorem dX10_ticksUntil_32 : decode cX10_ticksUntil 32 = .ok (.iload_n 3, 1) := by decide +kernel
theorem dX10_ticksUntil_33 : decode cX10_ticksUntil 33 = .ok (.ldc 81, 2) := by decide +kernel
theorem dX10_ticksUntil_35 : decode cX10_ticksUntil 35 = .ok (.if_icmp .ne 31, 3) := by decide +kernel
theorem dX10_ticksUntil_38 : decode cX10_ticksUntil 38 = .ok (.aload_n 0, 1) := by decide +kernel
theorem dX10_ticksUntil_39 : decode cX10_ticksUntil 39 = .ok (.invokevirtual 122, 3) := by decide +kernel
theorem dX10_ticksUntil_42 : decode cX10_ticksUntil 42 = .ok (.aload_n 0, 1) := by decide +kernel
theorem dX10_ticksUntil_43 : decode cX10_ticksUntil 43 = .ok (.getfield 7, 3) := by decide +kernel
theorem dX10_ticksUntil_46 : decode cX10_ticksUntil 46 = .ok (.iload_n 1, 1) := by decide +kernel
theorem dX10_ticksUntil_47 : decode cX10_ticksUntil 47 = .ok (.iaload, 1) := by decide +kernel
theorem dX10_ticksUntil_48 : decode cX10_ticksUntil 48 = .ok (.iload_n 2, 1) := by decide +kernel
theorem dX10_ticksUntil_49 : decode cX10_ticksUntil 49 = .ok (.if_icmp .lt 8, 3) := by decide +kernel
theorem dX10_ticksUntil_52 : decode cX10_ticksUntil 52 = .ok (.iload 4, 2) := by decide +kernel
theorem dX10_ticksUntil_54 : decode cX10_ticksUntil 54 = .ok (.goto 5, 3) := by decide +kernel
theorem dX10_ticksUntil_57 : decode cX10_ticksUntil 57 = .ok (.ldc 81, 2) := by decide +kernel
theorem dX10_ticksUntil_59 : decode cX10_ticksUntil 59 = .ok (.istore_n 3, 1) := by decide +kernel
theorem dX10_ticksUntil_60 : decode cX10_ticksUntil 60 = .ok (.iinc 4 1, 3) := by decide +kernel
theorem dX10_ticksUntil_63 : decode cX10_ticksUntil 63 = .ok (.goto (-39), 3) := by decide +kernel
theorem dX10_ticksUntil_66 : decode cX10_ticksUntil 66 = .ok (.aload_n 0, 1) := by decide +kernel
theorem dX10_ticksUntil_67 : decode cX10_ticksUntil 67 = .ok (.invokevirtual 92, 3) := by decide +kernel
theorem dX10_ticksUntil_70 : decode cX10_ticksUntil 70 = .ok (.iload_n 3, 1) := by decide +kernel
theorem dX10_ticksUntil_71 : decode cX10_ticksUntil 71 = .ok (.ireturn, 1) := by decide +kernel
theorem dX10_ticksTo_0 : decode cX10_ticksTo 0 = .ok (.aload_n 0, 1) := by decide +kernel
theorem dX10_ticksTo_1 : decode cX10_ticksTo 1 = .ok (.iconst 0, 1) := by decide +kernel
theorem dX10_ticksTo_2 : decode cX10_ticksTo 2 = .ok (.putfield 25, 3) := by decide +kernel
theorem dX10_ticksTo_5 : decode cX10_ticksTo 5 = .ok (.iload_n 1, 1) := by decide +kernel
theorem dX10_ticksTo_6 : decode cX10_ticksTo 6 = .ok (.iconst 0, 1) := by decide +kernel
theorem dX10_ticksTo_7 : decode cX10_ticksTo 7 = .ok (.sipush 3000, 3) := by decide +kernel
theorem dX10_ticksTo_10 : decode cX10_ticksTo 10 = .ok (.invokestatic 39, 3) := by decide +kernel
theorem dX10_ticksTo_13 : decode cX10_ticksTo 13 = .ok (.ifCond .ne 6, 3) := by decide +kernel
theorem dX10_ticksTo_16 : decode cX10_ticksTo 16 = .ok (.ldc 47, 2) := by decide +kernel
theorem dX10_ticksTo_18 : decode cX10_ticksTo 18 = .ok (.ireturn, 1) := by decide +kernel
theorem dX10_ticksTo_19 : decode cX10_ticksTo 19 = .ok (.aload_n 0, 1) := by decide +kernel
theorem dX10_ticksTo_20 : decode cX10_ticksTo 20 = .ok (.invokevirtual 96, 3) := by decide +kernel
theorem dX10_ticksTo_23 : decode cX10_ticksTo 23 = .ok (.ifCond .eq 13, 3) := by decide +kernel
theorem dX10_ticksTo_26 : decode cX10_ticksTo 26 = .ok (.aload_n 0, 1) := by decide +kernel
theorem dX10_ticksTo_27 : decode cX10_ticksTo 27 = .ok (.bipush 16, 2) := by decide +kernel
theorem dX10_ticksTo_29 : decode cX10_ticksTo 29 = .ok (.iload_n 1, 1) := by decide +kernel
theorem dX10_ticksTo_30 : decode cX10_ticksTo 30 = .ok (.invokevirtual 131, 3) := by decide +kernel
theorem dX10_ticksTo_33 : decode cX10_ticksTo 33 = .ok (.goto 5, 3) := by decide +kernel
theorem dX10_ticksTo_36 : decode cX10_ticksTo 36 = .ok (.ldc 61, 2) := by decide +kernel
theorem dX10_ticksTo_38 : decode cX10_ticksTo 38 = .ok (.ireturn, 1) := by decide +kernel
theorem dX10_ticksToLoss_0 : decode cX10_ticksToLoss 0 = .ok (.aload_n 0, 1) := by decide +kernel
theorem dX10_ticksToLoss_1 : decode cX10_ticksToLoss 1 = .ok (.iconst 0, 1) := by decide +kernel
theorem dX10_ticksToLoss_2 : decode cX10_ticksToLoss 2 = .ok (.putfield 25, 3) := by decide +kernel
theorem dX10_ticksToLoss_5 : decode cX10_ticksToLoss 5 = .ok (.iload_n 1, 1) := by decide +kernel
theorem dX10_ticksToLoss_6 : decode cX10_ticksToLoss 6 = .ok (.iconst 0, 1) := by decide +kernel
theorem dX10_ticksToLoss_7 : decode cX10_ticksToLoss 7 = .ok (.ldc 134, 2) := by decide +kernel
theorem dX10_ticksToLoss_9 : decode cX10_ticksToLoss 9 = .ok (.invokestatic 39, 3) := by decide +kernel
theorem dX10_ticksToLoss_12 : decode cX10_ticksToLoss 12 = .ok (.ifCond .ne 6, 3) := by decide +kernel
theorem dX10_ticksToLoss_15 : decode cX10_ticksToLoss 15 = .ok (.ldc 47, 2) := by decide +kernel
theorem dX10_ticksToLoss_17 : decode cX10_ticksToLoss 17 = .ok (.ireturn, 1) := by decide +kernel
theorem dX10_ticksToLoss_18 : decode cX10_ticksToLoss 18 = .ok (.aload_n 0, 1) := by decide +kernel
theorem dX10_ticksToLoss_19 : decode cX10_ticksToLoss 19 = .ok (.invokevirtual 96, 3) := by decide +kernel
theorem dX10_ticksToLoss_22 : decode cX10_ticksToLoss 22 = .ok (.ifCond .eq 13, 3) := by decide +kernel
theorem dX10_ticksToLoss_25 : decode cX10_ticksToLoss 25 = .ok (.aload_n 0, 1) := by decide +kernel
theorem dX10_ticksToLoss_26 : decode cX10_ticksToLoss 26 = .ok (.bipush 19, 2) := by decide +kernel
theorem dX10_ticksToLoss_28 : decode cX10_ticksToLoss 28 = .ok (.iload_n 1, 1) := by decide +kernel
theorem dX10_ticksToLoss_29 : decode cX10_ticksToLoss 29 = .ok (.invokevirtual 131, 3) := by decide +kernel
theorem dX10_ticksToLoss_32 : decode cX10_ticksToLoss 32 = .ok (.goto 5, 3) := by decide +kernel
theorem dX10_ticksToLoss_35 : decode cX10_ticksToLoss 35 = .ok (.ldc 61, 2) := by decide +kernel
theorem dX10_ticksToLoss_37 : decode cX10_ticksToLoss 37 = .ok (.ireturn, 1) := by decide +kernel
theorem dX10_offWith_0 : decode cX10_offWith 0 = .ok (.aload_n 0, 1) := by decide +kernel
theorem dX10_offWith_1 : decode cX10_offWith 1 = .ok (.getfield 7, 3) := by decide +kernel
theorem dX10_offWith_4 : decode cX10_offWith 4 = .ok (.bipush 9, 2) := by decide +kernel
theorem dX10_offWith_6 : decode cX10_offWith 6 = .ok (.iconst 1, 1) := by decide +kernel
theorem dX10_offWith_7 : decode cX10_offWith 7 = .ok (.iastore, 1) := by decide +kernel
theorem dX10_offWith_8 : decode cX10_offWith 8 = .ok (.aload_n 0, 1) := by decide +kernel
theorem dX10_offWith_9 : decode cX10_offWith 9 = .ok (.getfield 7, 3) := by decide +kernel
theorem dX10_offWith_12 : decode cX10_offWith 12 = .ok (.bipush 12, 2) := by decide +kernel
theorem dX10_offWith_14 : decode cX10_offWith 14 = .ok (.iload_n 1, 1) := by decide +kernel
theorem dX10_offWith_15 : decode cX10_offWith 15 = .ok (.iastore, 1) := by decide +kernel
theorem dX10_offWith_16 : decode cX10_offWith 16 = .ok (.iconst 0, 1) := by decide +kernel
theorem dX10_offWith_17 : decode cX10_offWith 17 = .ok (.istore_n 3, 1) := by decide +kernel
theorem dX10_offWith_18 : decode cX10_offWith 18 = .ok (.iconst 0, 1) := by decide +kernel
theorem dX10_offWith_19 : decode cX10_offWith 19 = .ok (.istore 4, 2) := by decide +kernel
theorem dX10_offWith_21 : decode cX10_offWith 21 = .ok (.iload 4, 2) := by decide +kernel
theorem dX10_offWith_23 : decode cX10_offWith 23 = .ok (.iload_n 2, 1) := by decide +kernel
theorem dX10_offWith_24 : decode cX10_offWith 24 = .ok (.if_icmp .ge 49, 3) := by decide +kernel
theorem dX10_offWith_27 : decode cX10_offWith 27 = .ok (.aload_n 0, 1) := by decide +kernel
theorem dX10_offWith_28 : decode cX10_offWith 28 = .ok (.invokevirtual 122, 3) := by decide +kernel
theorem dX10_offWith_31 : decode cX10_offWith 31 = .ok (.aload_n 0, 1) := by decide +kernel
theorem dX10_offWith_32 : decode cX10_offWith 32 = .ok (.aload_n 0, 1) := by decide +kernel
theorem dX10_offWith_33 : decode cX10_offWith 33 = .ok (.getfield 7, 3) := by decide +kernel
theorem dX10_offWith_36 : decode cX10_offWith 36 = .ok (.bipush 18, 2) := by decide +kernel
theorem dX10_offWith_38 : decode cX10_offWith 38 = .ok (.iaload, 1) := by decide +kernel
theorem dX10_offWith_39 : decode cX10_offWith 39 = .ok (.invokevirtual 106, 3) := by decide +kernel
theorem dX10_offWith_42 : decode cX10_offWith 42 = .ok (.aload_n 0, 1) := by decide +kernel
theorem dX10_offWith_43 : decode cX10_offWith 43 = .ok (.getfield 7, 3) := by decide +kernel
theorem dX10_offWith_46 : decode cX10_offWith 46 = .ok (.iconst 4, 1) := by decide +kernel
theorem dX10_offWith_47 : decode cX10_offWith 47 = .ok (.iaload, 1) := by decide +kernel
theorem dX10_offWith_48 : decode cX10_offWith 48 = .ok (.isub, 1) := by decide +kernel
theorem dX10_offWith_49 : decode cX10_offWith 49 = .ok (.istore 5, 2) := by decide +kernel
theorem dX10_offWith_51 : decode cX10_offWith 51 = .ok (.iload_n 3, 1) := by decide +kernel
theorem dX10_offWith_52 : decode cX10_offWith 52 = .ok (.iload 5, 2) := by decide +kernel
theorem dX10_offWith_54 : decode cX10_offWith 54 = .ok (.ifCond .ge 9, 3) := by decide +kernel
theorem dX10_offWith_57 : decode cX10_offWith 57 = .ok (.iload 5, 2) := by decide +kernel
theorem dX10_offWith_59 : decode cX10_offWith 59 = .ok (.ineg, 1) := by decide +kernel
theorem dX10_offWith_60 : decode cX10_offWith 60 = .ok (.goto 5, 3) := by decide +kernel
theorem dX10_offWith_63 : decode cX10_offWith 63 = .ok (.iload 5, 2) := by decide +kernel
theorem dX10_offWith_65 : decode cX10_offWith 65 = .ok (.iadd, 1) := by decide +kernel
theorem dX10_offWith_66 : decode cX10_offWith 66 = .ok (.istore_n 3, 1) := by decide +kernel
theorem dX10_offWith_67 : decode cX10_offWith 67 = .ok (.iinc 4 1, 3) := by decide +kernel
theorem dX10_offWith_70 : decode cX10_offWith 70 = .ok (.goto (-49), 3) := by decide +kernel
theorem dX10_offWith_73 : decode cX10_offWith 73 = .ok (.aload_n 0, 1) := by decide +kernel
theorem dX10_offWith_74 : decode cX10_offWith 74 = .ok (.invokevirtual 92, 3) := by decide +kernel
theorem dX10_offWith_77 : decode cX10_offWith 77 = .ok (.iload_n 3, 1) := by decide +kernel
theorem dX10_offWith_78 : decode cX10_offWith 78 = .ok (.ireturn, 1) := by decide +kernel
theorem dX10_bestBias_0 : decode cX10_bestBias 0 = .ok (.aload_n 0, 1) := by decide +kernel
theorem dX10_bestBias_1 : decode cX10_bestBias 1 = .ok (.iconst 0, 1) := by decide +kernel
theorem dX10_bestBias_2 : decode cX10_bestBias 2 = .ok (.putfield 25, 3) := by decide +kernel
theorem dX10_bestBias_5 : decode cX10_bestBias 5 = .ok (.iload_n 1, 1) := by decide +kernel
theorem dX10_bestBias_6 : decode cX10_bestBias 6 = .ok (.iconst 1, 1) := by decide +kernel
theorem dX10_bestBias_7 : decode cX10_bestBias 7 = .ok (.bipush 100, 2) := by decide +kernel
theorem dX10_bestBias_9 : decode cX10_bestBias 9 = .ok (.invokestatic 39, 3) := by decide +kernel
theorem dX10_bestBias_12 : decode cX10_bestBias 12 = .ok (.ifCond .ne 6, 3) := by decide +kernel
theorem dX10_bestBias_15 : decode cX10_bestBias 15 = .ok (.ldc 47, 2) := by decide +kernel
theorem dX10_bestBias_17 : decode cX10_bestBias 17 = .ok (.ireturn, 1) := by decide +kernel
theorem dX10_bestBias_18 : decode cX10_bestBias 18 = .ok (.aload_n 0, 1) := by decide +kernel
theorem dX10_bestBias_19 : decode cX10_bestBias 19 = .ok (.invokevirtual 96, 3) := by decide +kernel
theorem dX10_bestBias_22 : decode cX10_bestBias 22 = .ok (.ifCond .eq 13, 3) := by decide +kernel
theorem dX10_bestBias_25 : decode cX10_bestBias 25 = .ok (.aload_n 0, 1) := by decide +kernel
theorem dX10_bestBias_26 : decode cX10_bestBias 26 = .ok (.getfield 7, 3) := by decide +kernel
theorem dX10_bestBias_29 : decode cX10_bestBias 29 = .ok (.bipush 32, 2) := by decide +kernel
theorem dX10_bestBias_31 : decode cX10_bestBias 31 = .ok (.iaload, 1) := by decide +kernel
theorem dX10_bestBias_32 : decode cX10_bestBias 32 = .ok (.ifCond .ne 6, 3) := by decide +kernel
theorem dX10_bestBias_35 : decode cX10_bestBias 35 = .ok (.ldc 61, 2) := by decide +kernel
theorem dX10_bestBias_37 : decode cX10_bestBias 37 = .ok (.ireturn, 1) := by decide +kernel
theorem dX10_bestBias_38 : decode cX10_bestBias 38 = .ok (.aload_n 0, 1) := by decide +kernel
theorem dX10_bestBias_39 : decode cX10_bestBias 39 = .ok (.invokevirtual 85, 3) := by decide +kernel
theorem dX10_bestBias_42 : decode cX10_bestBias 42 = .ok (.iconst 0, 1) := by decide +kernel
theorem dX10_bestBias_43 : decode cX10_bestBias 43 = .ok (.istore_n 2, 1) := by decide +kernel
theorem dX10_bestBias_44 : decode cX10_bestBias 44 = .ok (.aload_n 0, 1) := by decide +kernel
theorem dX10_bestBias_45 : decode cX10_bestBias 45 = .ok (.iconst 0, 1) := by decide +kernel
theorem dX10_bestBias_46 : decode cX10_bestBias 46 = .ok (.iload_n 1, 1) := by decide +kernel
theorem dX10_bestBias_47 : decode cX10_bestBias 47 = .ok (.invokevirtual 135, 3) := by decide +kernel
theorem dX10_bestBias_50 : decode cX10_bestBias 50 = .ok (.istore_n 3, 1) := by decide +kernel
theorem dX10_bestBias_51 : decode cX10_bestBias 51 = .ok (.iconst 1, 1) := by decide +kernel
theorem dX10_bestBias_52 : decode cX10_bestBias 52 = .ok (.istore 4, 2) := by decide +kernel
theorem dX10_bestBias_54 : decode cX10_bestBias 54 = .ok (.iload 4, 2) := by decide +kernel
theorem dX10_bestBias_56 : decode cX10_bestBias 56 = .ok (.bipush 100, 2) := by decide +kernel
theorem dX10_bestBias_58 : decode cX10_bestBias 58 = .ok (.if_icmp .gt 44, 3) := by decide +kernel
theorem dX10_bestBias_61 : decode cX10_bestBias 61 = .ok (.aload_n 0, 1) := by decide +kernel
theorem dX10_bestBias_62 : decode cX10_bestBias 62 = .ok (.iload 4, 2) := by decide +kernel
theorem dX10_bestBias_64 : decode cX10_bestBias 64 = .ok (.iload_n 1, 1) := by decide +kernel
theorem dX10_bestBias_65 : decode cX10_bestBias 65 = .ok (.invokevirtual 135, 3) := by decide +kernel
theorem dX10_bestBias_68 : decode cX10_bestBias 68 = .ok (.istore 5, 2) := by decide +kernel
theorem dX10_bestBias_70 : decode cX10_bestBias 70 = .ok (.iload 5, 2) := by decide +kernel
theorem dX10_bestBias_72 : decode cX10_bestBias 72 = .ok (.iload_n 3, 1) := by decide +kernel
theorem dX10_bestBias_73 : decode cX10_bestBias 73 = .ok (.if_icmp .ge 8, 3) := by decide +kernel
theorem dX10_bestBias_76 : decode cX10_bestBias 76 = .ok (.iload 4, 2) := by decide +kernel
theorem dX10_bestBias_78 : decode cX10_bestBias 78 = .ok (.goto 4, 3) := by decide +kernel
theorem dX10_bestBias_81 : decode cX10_bestBias 81 = .ok (.iload_n 2, 1) := by decide +kernel
theorem dX10_bestBias_82 : decode cX10_bestBias 82 = .ok (.istore_n 2, 1) := by decide +kernel
theorem dX10_bestBias_83 : decode cX10_bestBias 83 = .ok (.iload 5, 2) := by decide +kernel
theorem dX10_bestBias_85 : decode cX10_bestBias 85 = .ok (.iload_n 3, 1) := by decide +kernel
theorem dX10_bestBias_86 : decode cX10_bestBias 86 = .ok (.if_icmp .ge 8, 3) := by decide +kernel
theorem dX10_bestBias_89 : decode cX10_bestBias 89 = .ok (.iload 5, 2) := by decide +kernel
theorem dX10_bestBias_91 : decode cX10_bestBias 91 = .ok (.goto 4, 3) := by decide +kernel
theorem dX10_bestBias_94 : decode cX10_bestBias 94 = .ok (.iload_n 3, 1) := by decide +kernel
theorem dX10_bestBias_95 : decode cX10_bestBias 95 = .ok (.istore_n 3, 1) := by decide +kernel
theorem dX10_bestBias_96 : decode cX10_bestBias 96 = .ok (.iinc 4 1, 3) := by decide +kernel
theorem dX10_bestBias_99 : decode cX10_bestBias 99 = .ok (.goto (-45), 3) := by decide +kernel
theorem dX10_bestBias_102 : decode cX10_bestBias 102 = .ok (.iload_n 2, 1) := by decide +kernel
theorem dX10_bestBias_103 : decode cX10_bestBias 103 = .ok (.ireturn, 1) := by decide +kernel
theorem dJ9_floorDiv_7cf53_0 : decode cJ9_floorDiv_7cf53 0 = .ok (.iload_n 0, 1) := by decide +kernel
theorem dJ9_floorDiv_7cf53_1 : decode cJ9_floorDiv_7cf53 1 = .ok (.iload_n 1, 1) := by decide +kernel
theorem dJ9_floorDiv_7cf53_2 : decode cJ9_floorDiv_7cf53 2 = .ok (.idiv, 1) := by decide +kernel
theorem dJ9_floorDiv_7cf53_3 : decode cJ9_floorDiv_7cf53 3 = .ok (.istore_n 2, 1) := by decide +kernel
theorem dJ9_floorDiv_7cf53_4 : decode cJ9_floorDiv_7cf53 4 = .ok (.iload_n 0, 1) := by decide +kernel
theorem dJ9_floorDiv_7cf53_5 : decode cJ9_floorDiv_7cf53 5 = .ok (.iload_n 1, 1) := by decide +kernel
theorem dJ9_floorDiv_7cf53_6 : decode cJ9_floorDiv_7cf53 6 = .ok (.ixor, 1) := by decide +kernel
theorem dJ9_floorDiv_7cf53_7 : decode cJ9_floorDiv_7cf53 7 = .ok (.ifCond .ge 14, 3) := by decide +kernel
theorem dJ9_floorDiv_7cf53_10 : decode cJ9_floorDiv_7cf53 10 = .ok (.iload_n 2, 1) := by decide +kernel
theorem dJ9_floorDiv_7cf53_11 : decode cJ9_floorDiv_7cf53 11 = .ok (.iload_n 1, 1) := by decide +kernel
theorem dJ9_floorDiv_7cf53_12 : decode cJ9_floorDiv_7cf53 12 = .ok (.imul, 1) := by decide +kernel
theorem dJ9_floorDiv_7cf53_13 : decode cJ9_floorDiv_7cf53 13 = .ok (.iload_n 0, 1) := by decide +kernel
theorem dJ9_floorDiv_7cf53_14 : decode cJ9_floorDiv_7cf53 14 = .ok (.if_icmp .eq 7, 3) := by decide +kernel
theorem dJ9_floorDiv_7cf53_17 : decode cJ9_floorDiv_7cf53 17 = .ok (.iload_n 2, 1) := by decide +kernel
theorem dJ9_floorDiv_7cf53_18 : decode cJ9_floorDiv_7cf53 18 = .ok (.iconst 1, 1) := by decide +kernel
theorem dJ9_floorDiv_7cf53_19 : decode cJ9_floorDiv_7cf53 19 = .ok (.isub, 1) := by decide +kernel
theorem dJ9_floorDiv_7cf53_20 : decode cJ9_floorDiv_7cf53 20 = .ok (.ireturn, 1) := by decide +kernel
theorem dJ9_floorDiv_7cf53_21 : decode cJ9_floorDiv_7cf53 21 = .ok (.iload_n 2, 1) := by decide +kernel
theorem dJ9_floorDiv_7cf53_22 : decode cJ9_floorDiv_7cf53 22 = .ok (.ireturn, 1) := by decide +kernel
theorem dJ9_floorDiv_f86c9_0 : decode cJ9_floorDiv_f86c9 0 = .ok (.lload_n 0, 1) := by decide +kernel
theorem dJ9_floorDiv_f86c9_1 : decode cJ9_floorDiv_f86c9 1 = .ok (.lload_n 2, 1) := by decide +kernel
theorem dJ9_floorDiv_f86c9_2 : decode cJ9_floorDiv_f86c9 2 = .ok (.ldiv, 1) := by decide +kernel
theorem dJ9_floorDiv_f86c9_3 : decode cJ9_floorDiv_f86c9 3 = .ok (.lstore 4, 2) := by decide +kernel
theorem dJ9_floorDiv_f86c9_5 : decode cJ9_floorDiv_f86c9 5 = .ok (.lload_n 0, 1) := by decide +kernel
theorem dJ9_floorDiv_f86c9_6 : decode cJ9_floorDiv_f86c9 6 = .ok (.lload_n 2, 1) := by decide +kernel
theorem dJ9_floorDiv_f86c9_7 : decode cJ9_floorDiv_f86c9 7 = .ok (.lxor, 1) := by decide +kernel
theorem dJ9_floorDiv_f86c9_8 : decode cJ9_floorDiv_f86c9 8 = .ok (.lconst 0, 1) := by decide +kernel
theorem dJ9_floorDiv_f86c9_9 : decode cJ9_floorDiv_f86c9 9 = .ok (.lcmp, 1) := by decide +kernel
theorem dJ9_floorDiv_f86c9_10 : decode cJ9_floorDiv_f86c9 10 = .ok (.ifCond .ge 17, 3) := by decide +kernel
theorem dJ9_floorDiv_f86c9_13 : decode cJ9_floorDiv_f86c9 13 = .ok (.lload 4, 2) := by decide +kernel
theorem dJ9_floorDiv_f86c9_15 : decode cJ9_floorDiv_f86c9 15 = .ok (.lload_n 2, 1) := by decide +kernel
theorem dJ9_floorDiv_f86c9_16 : decode cJ9_floorDiv_f86c9 16 = .ok (.lmul, 1) := by decide +kernel
theorem dJ9_floorDiv_f86c9_17 : decode cJ9_floorDiv_f86c9 17 = .ok (.lload_n 0, 1) := by decide +kernel
theorem dJ9_floorDiv_f86c9_18 : decode cJ9_floorDiv_f86c9 18 = .ok (.lcmp, 1) := by decide +kernel
theorem dJ9_floorDiv_f86c9_19 : decode cJ9_floorDiv_f86c9 19 = .ok (.ifCond .eq 8, 3) := by decide +kernel
theorem dJ9_floorDiv_f86c9_22 : decode cJ9_floorDiv_f86c9 22 = .ok (.lload 4, 2) := by decide +kernel
theorem dJ9_floorDiv_f86c9_24 : decode cJ9_floorDiv_f86c9 24 = .ok (.lconst 1, 1) := by decide +kernel
theorem dJ9_floorDiv_f86c9_25 : decode cJ9_floorDiv_f86c9 25 = .ok (.lsub, 1) := by decide +kernel
theorem dJ9_floorDiv_f86c9_26 : decode cJ9_floorDiv_f86c9 26 = .ok (.lreturn, 1) := by decide +kernel
theorem dJ9_floorDiv_f86c9_27 : decode cJ9_floorDiv_f86c9 27 = .ok (.lload 4, 2) := by decide +kernel
theorem dJ9_floorDiv_f86c9_29 : decode cJ9_floorDiv_f86c9 29 = .ok (.lreturn, 1) := by decide +kernel
theorem dJ9_floorMod_7cf53_0 : decode cJ9_floorMod_7cf53 0 = .ok (.iload_n 0, 1) := by decide +kernel
theorem dJ9_floorMod_7cf53_1 : decode cJ9_floorMod_7cf53 1 = .ok (.iload_n 1, 1) := by decide +kernel
theorem dJ9_floorMod_7cf53_2 : decode cJ9_floorMod_7cf53 2 = .ok (.irem, 1) := by decide +kernel
theorem dJ9_floorMod_7cf53_3 : decode cJ9_floorMod_7cf53 3 = .ok (.istore_n 2, 1) := by decide +kernel
theorem dJ9_floorMod_7cf53_4 : decode cJ9_floorMod_7cf53 4 = .ok (.iload_n 0, 1) := by decide +kernel
theorem dJ9_floorMod_7cf53_5 : decode cJ9_floorMod_7cf53 5 = .ok (.iload_n 1, 1) := by decide +kernel
theorem dJ9_floorMod_7cf53_6 : decode cJ9_floorMod_7cf53 6 = .ok (.ixor, 1) := by decide +kernel
theorem dJ9_floorMod_7cf53_7 : decode cJ9_floorMod_7cf53 7 = .ok (.ifCond .ge 11, 3) := by decide +kernel
theorem dJ9_floorMod_7cf53_10 : decode cJ9_floorMod_7cf53 10 = .ok (.iload_n 2, 1) := by decide +kernel
theorem dJ9_floorMod_7cf53_11 : decode cJ9_floorMod_7cf53 11 = .ok (.ifCond .eq 7, 3) := by decide +kernel
theorem dJ9_floorMod_7cf53_14 : decode cJ9_floorMod_7cf53 14 = .ok (.iload_n 2, 1) := by decide +kernel
theorem dJ9_floorMod_7cf53_15 : decode cJ9_floorMod_7cf53 15 = .ok (.iload_n 1, 1) := by decide +kernel
theorem dJ9_floorMod_7cf53_16 : decode cJ9_floorMod_7cf53 16 = .ok (.iadd, 1) := by decide +kernel
theorem dJ9_floorMod_7cf53_17 : decode cJ9_floorMod_7cf53 17 = .ok (.ireturn, 1) := by decide +kernel
theorem dJ9_floorMod_7cf53_18 : decode cJ9_floorMod_7cf53 18 = .ok (.iload_n 2, 1) := by decide +kernel
theorem dJ9_floorMod_7cf53_19 : decode cJ9_floorMod_7cf53 19 = .ok (.ireturn, 1) := by decide +kernel
theorem dJ9_abs_0f7a4_0 : decode cJ9_abs_0f7a4 0 = .ok (.iload_n 0, 1) := by decide +kernel
theorem dJ9_abs_0f7a4_1 : decode cJ9_abs_0f7a4 1 = .ok (.ifCond .ge 8, 3) := by decide +kernel
theorem dJ9_abs_0f7a4_4 : decode cJ9_abs_0f7a4 4 = .ok (.iload_n 0, 1) := by decide +kernel
theorem dJ9_abs_0f7a4_5 : decode cJ9_abs_0f7a4 5 = .ok (.ineg, 1) := by decide +kernel
theorem dJ9_abs_0f7a4_6 : decode cJ9_abs_0f7a4 6 = .ok (.goto 4, 3) := by decide +kernel
theorem dJ9_abs_0f7a4_9 : decode cJ9_abs_0f7a4 9 = .ok (.iload_n 0, 1) := by decide +kernel
theorem dJ9_abs_0f7a4_10 : decode cJ9_abs_0f7a4 10 = .ok (.ireturn, 1) := by decide +kernel
theorem dJ9_max_7cf53_0 : decode cJ9_max_7cf53 0 = .ok (.iload_n 0, 1) := by decide +kernel
theorem dJ9_max_7cf53_1 : decode cJ9_max_7cf53 1 = .ok (.iload_n 1, 1) := by decide +kernel
theorem dJ9_max_7cf53_2 : decode cJ9_max_7cf53 2 = .ok (.if_icmp .lt 7, 3) := by decide +kernel
theorem dJ9_max_7cf53_5 : decode cJ9_max_7cf53 5 = .ok (.iload_n 0, 1) := by decide +kernel
theorem dJ9_max_7cf53_6 : decode cJ9_max_7cf53 6 = .ok (.goto 4, 3) := by decide +kernel
theorem dJ9_max_7cf53_9 : decode cJ9_max_7cf53 9 = .ok (.iload_n 1, 1) := by decide +kernel
theorem dJ9_max_7cf53_10 : decode cJ9_max_7cf53 10 = .ok (.ireturn, 1) := by decide +kernel
theorem dJ9_min_7cf53_0 : decode cJ9_min_7cf53 0 = .ok (.iload_n 0, 1) := by decide +kernel
theorem dJ9_min_7cf53_1 : decode cJ9_min_7cf53 1 = .ok (.iload_n 1, 1) := by decide +kernel
theorem dJ9_min_7cf53_2 : decode cJ9_min_7cf53 2 = .ok (.if_icmp .gt 7, 3) := by decide +kernel
theorem dJ9_min_7cf53_5 : decode cJ9_min_7cf53 5 = .ok (.iload_n 0, 1) := by decide +kernel
theorem dJ9_min_7cf53_6 : decode cJ9_min_7cf53 6 = .ok (.goto 4, 3) := by decide +kernel
theorem dJ9_min_7cf53_9 : decode cJ9_min_7cf53 9 = .ok (.iload_n 1, 1) := by decide +kernel
theorem dJ9_min_7cf53_10 : decode cJ9_min_7cf53 10 = .ok (.ireturn, 1) := by decide +kernel
theorem dL_law_0 : decode cL_law 0 = .ok (.new 7, 3) := by decide +kernel
theorem dL_law_3 : decode cL_law 3 = .ok (.dup, 1) := by decide +kernel
theorem dL_law_4 : decode cL_law 4 = .ok (.invokespecial 9, 3) := by decide +kernel
theorem dL_law_7 : decode cL_law 7 = .ok (.astore_n 1, 1) := by decide +kernel
theorem dL_law_8 : decode cL_law 8 = .ok (.new 10, 3) := by decide +kernel
theorem dL_law_11 : decode cL_law 11 = .ok (.dup, 1) := by decide +kernel
theorem dL_law_12 : decode cL_law 12 = .ok (.invokespecial 12, 3) := by decide +kernel
theorem dL_law_15 : decode cL_law 15 = .ok (.astore_n 2, 1) := by decide +kernel
theorem dL_law_16 : decode cL_law 16 = .ok (.iconst 0, 1) := by decide +kernel
theorem dL_law_17 : decode cL_law 17 = .ok (.istore_n 3, 1) := by decide +kernel
theorem dL_law_18 : decode cL_law 18 = .ok (.iload_n 3, 1) := by decide +kernel
theorem dL_law_19 : decode cL_law 19 = .ok (.aload_n 0, 1) := by decide +kernel
theorem dL_law_20 : decode cL_law 20 = .ok (.arraylength, 1) := by decide +kernel
theorem dL_law_21 : decode cL_law 21 = .ok (.iconst 5, 1) := by decide +kernel
theorem dL_law_22 : decode cL_law 22 = .ok (.isub, 1) := by decide +kernel
theorem dL_law_23 : decode cL_law 23 = .ok (.if_icmp .gt 763, 3) := by decide +kernel
theorem dL_law_26 : decode cL_law 26 = .ok (.aload_n 0, 1) := by decide +kernel
theorem dL_law_27 : decode cL_law 27 = .ok (.iload_n 3, 1) := by decide +kernel
theorem dL_law_28 : decode cL_law 28 = .ok (.iaload, 1) := by decide +kernel
theorem dL_law_29 : decode cL_law 29 = .ok (.bipush 31, 2) := by decide +kernel
theorem dL_law_31 : decode cL_law 31 = .ok (.iand, 1) := by decide +kernel
theorem dL_law_32 : decode cL_law 32 = .ok (.tableswitch 748 0 25 #[120, 143, 166, 219, 252, 285, 308, 341, 364, 397, 420, 433, 446, 469, 482, 495, 518, 531, 554, 577, 600, 623, 656, 679, 702, 725], 120) := by decide +kernel
theorem dL_law_152 : decode cL_law 152 = .ok (.aload_n 1, 1) := by decide +kernel
theorem dL_law_153 : decode cL_law 153 = .ok (.aload_n 0, 1) := by decide +kernel
theorem dL_law_154 : decode cL_law 154 = .ok (.iload_n 3, 1) := by decide +kernel
theorem dL_law_155 : decode cL_law 155 = .ok (.iconst 1, 1) := by decide +kernel
theorem dL_law_156 : decode cL_law 156 = .ok (.iadd, 1) := by decide +kernel
theorem dL_law_157 : decode cL_law 157 = .ok (.iaload, 1) := by decide +kernel
theorem dL_law_158 : decode cL_law 158 = .ok (.invokevirtual 13, 3) := by decide +kernel
theorem dL_law_161 : decode cL_law 161 = .ok (.aload_n 2, 1) := by decide +kernel
theorem dL_law_162 : decode cL_law 162 = .ok (.aload_n 0, 1) := by decide +kernel
theorem dL_law_163 : decode cL_law 163 = .ok (.iload_n 3, 1) := by decide +kernel
theorem dL_law_164 : decode cL_law 164 = .ok (.iconst 1, 1) := by decide +kernel
theorem dL_law_165 : decode cL_law 165 = .ok (.iadd, 1) := by decide +kernel
theorem dL_law_166 : decode cL_law 166 = .ok (.iaload, 1) := by decide +kernel
theorem dL_law_167 : decode cL_law 167 = .ok (.invokevirtual 17, 3) := by decide +kernel
theorem dL_law_170 : decode cL_law 170 = .ok (.if_icmp .eq 610, 3) := by decide +kernel
theorem dL_law_173 : decode cL_law 173 = .ok (.iconst 0, 1) := by decide +kernel
theorem dL_law_174 : decode cL_law 174 = .ok (.ireturn, 1) := by decide +kernel
theorem dL_law_175 : decode cL_law 175 = .ok (.aload_n 1, 1) := by decide +kernel
theorem dL_law_176 : decode cL_law 176 = .ok (.aload_n 0, 1) := by decide +kernel
theorem dL_law_177 : decode cL_law 177 = .ok (.iload_n 3, 1) := by decide +kernel
theorem dL_law_178 : decode cL_law 178 = .ok (.iconst 1, 1) := by decide +kernel
theorem dL_law_179 : decode cL_law 179 = .ok (.iadd, 1) := by decide +kernel
theorem dL_law_180 : decode cL_law 180 = .ok (.iaload, 1) := by decide +kernel
theorem dL_law_181 : decode cL_law 181 = .ok (.invokevirtual 18, 3) := by decide +kernel
theorem dL_law_184 : decode cL_law 184 = .ok (.aload_n 2, 1) := by decide +kernel
theorem dL_law_185 : decode cL_law 185 = .ok (.aload_n 0, 1) := by decide +kernel
theorem dL_law_186 : decode cL_law 186 = .ok (.iload_n 3, 1) := by decide +kernel
theorem dL_law_187 : decode cL_law 187 = .ok (.iconst 1, 1) := by decide +kernel
theorem dL_law_188 : decode cL_law 188 = .ok (.iadd, 1) := by decide +kernel
theorem dL_law_189 : decode cL_law 189 = .ok (.iaload, 1) := by decide +kernel
theorem dL_law_190 : decode cL_law 190 = .ok (.invokevirtual 21, 3) := by decide +kernel
theorem dL_law_193 : decode cL_law 193 = .ok (.if_icmp .eq 587, 3) := by decide +kernel
theorem dL_law_196 : decode cL_law 196 = .ok (.iconst 0, 1) := by decide +kernel
theorem dL_law_197 : decode cL_law 197 = .ok (.ireturn, 1) := by decide +kernel
theorem dL_law_198 : decode cL_law 198 = .ok (.aload_n 1, 1) := by decide +kernel
theorem dL_law_199 : decode cL_law 199 = .ok (.aload_n 0, 1) := by decide +kernel
theorem dL_law_200 : decode cL_law 200 = .ok (.iload_n 3, 1) := by decide +kernel
theorem dL_law_201 : decode cL_law 201 = .ok (.iconst 1, 1) := by decide +kernel
theorem dL_law_202 : decode cL_law 202 = .ok (.iadd, 1) := by decide +kernel
theorem dL_law_203 : decode cL_law 203 = .ok (.iaload, 1) := by decide +kernel
theorem dL_law_204 : decode cL_law 204 = .ok (.aload_n 0, 1) := by decide +kernel
theorem dL_law_205 : decode cL_law 205 = .ok (.iload_n 3, 1) := by decide +kernel
theorem dL_law_206 : decode cL_law 206 = .ok (.iconst 2, 1) := by decide +kernel
theorem dL_law_207 : decode cL_law 207 = .ok (.iadd, 1) := by decide +kernel
theorem dL_law_208 : decode cL_law 208 = .ok (.iaload, 1) := by decide +kernel
theorem dL_law_209 : decode cL_law 209 = .ok (.aload_n 0, 1) := by decide +kernel
theorem dL_law_210 : decode cL_law 210 = .ok (.iload_n 3, 1) := by decide +kernel
theorem dL_law_211 : decode cL_law 211 = .ok (.iconst 3, 1) := by decide +kernel
theorem dL_law_212 : decode cL_law 212 = .ok (.iadd, 1) := by decide +kernel
theorem dL_law_213 : decode cL_law 213 = .ok (.iaload, 1) := by decide +kernel
theorem dL_law_214 : decode cL_law 214 = .ok (.aload_n 0, 1) := by decide +kernel
theorem dL_law_215 : decode cL_law 215 = .ok (.iload_n 3, 1) := by decide +kernel
theorem dL_law_216 : decode cL_law 216 = .ok (.iconst 4, 1) := by decide +kernel
theorem dL_law_217 : decode cL_law 217 = .ok (.iadd, 1) := by decide +kernel
theorem dL_law_218 : decode cL_law 218 = .ok (.iaload, 1) := by decide +kernel
theorem dL_law_219 : decode cL_law 219 = .ok (.invokevirtual 22, 3) := by decide +kernel
theorem dL_law_222 : decode cL_law 222 = .ok (.aload_n 2, 1) := by decide +kernel
theorem dL_law_223 : decode cL_law 223 = .ok (.aload_n 0, 1) := by decide +kernel
theorem dL_law_224 : decode cL_law 224 = .ok (.iload_n 3, 1) := by decide +kernel
theorem dL_law_225 : decode cL_law 225 = .ok (.iconst 1, 1) := by decide +kernel
theorem dL_law_226 : decode cL_law 226 = .ok (.iadd, 1) := by decide +kernel
theorem dL_law_227 : decode cL_law 227 = .ok (.iaload, 1) := by decide +kernel
theorem dL_law_228 : decode cL_law 228 = .ok (.aload_n 0, 1) := by decide +kernel
theorem dL_law_229 : decode cL_law 229 = .ok (.iload_n 3, 1) := by decide +kernel
theorem dL_law_230 : decode cL_law 230 = .ok (.iconst 2, 1) := by decide +kernel
theorem dL_law_231 : decode cL_law 231 = .ok (.iadd, 1) := by decide +kernel
theorem dL_law_232 : decode cL_law 232 = .ok (.iaload, 1) := by decide +kernel
theorem dL_law_233 : decode cL_law 233 = .ok (.aload_n 0, 1) := by decide +kernel
theorem dL_law_234 : decode cL_law 234 = .ok (.iload_n 3, 1) := by decide +kernel
theorem dL_law_235 : decode cL_law 235 = .ok (.iconst 3, 1) := by decide +kernel
theorem dL_law_236 : decode cL_law 236 = .ok (.iadd, 1) := by decide +kernel
theorem dL_law_237 : decode cL_law 237 = .ok (.iaload, 1) := by decide +kernel
theorem dL_law_238 : decode cL_law 238 = .ok (.aload_n 0, 1) := by decide +kernel
theorem dL_law_239 : decode cL_law 239 = .ok (.iload_n 3, 1) := by decide +kernel
theorem dL_law_240 : decode cL_law 240 = .ok (.iconst 4, 1) := by decide +kernel
theorem dL_law_241 : decode cL_law 241 = .ok (.iadd, 1) := by decide +kernel
theorem dL_law_242 : decode cL_law 242 = .ok (.iaload, 1) := by decide +kernel
theorem dL_law_243 : decode cL_law 243 = .ok (.invokevirtual 26, 3) := by decide +kernel
theorem dL_law_246 : decode cL_law 246 = .ok (.if_icmp .eq 534, 3) := by decide +kernel
theorem dL_law_249 : decode cL_law 249 = .ok (.iconst 0, 1) := by decide +kernel
theorem dL_law_250 : decode cL_law 250 = .ok (.ireturn, 1) := by decide +kernel
theorem dL_law_251 : decode cL_law 251 = .ok (.aload_n 1, 1) := by decide +kernel
theorem dL_law_252 : decode cL_law 252 = .ok (.aload_n 0, 1) := by decide +kernel
theorem dL_law_253 : decode cL_law 253 = .ok (.iload_n 3, 1) := by decide +kernel
theorem dL_law_254 : decode cL_law 254 = .ok (.iconst 1, 1) := by decide +kernel
theorem dL_law_255 : decode cL_law 255 = .ok (.iadd, 1) := by decide +kernel
theorem dL_law_256 : decode cL_law 256 = .ok (.iaload, 1) := by decide +kernel
theorem dL_law_257 : decode cL_law 257 = .ok (.aload_n 0, 1) := by decide +kernel
theorem dL_law_258 : decode cL_law 258 = .ok (.iload_n 3, 1) := by decide +kernel
theorem dL_law_259 : decode cL_law 259 = .ok (.iconst 2, 1) := by decide +kernel
theorem dL_law_260 : decode cL_law 260 = .ok (.iadd, 1) := by decide +kernel
theorem dL_law_261 : decode cL_law 261 = .ok (.iaload, 1) := by decide +kernel
theorem dL_law_262 : decode cL_law 262 = .ok (.invokevirtual 27, 3) := by decide +kernel
theorem dL_law_265 : decode cL_law 265 = .ok (.aload_n 2, 1) := by decide +kernel
theorem dL_law_266 : decode cL_law 266 = .ok (.aload_n 0, 1) := by decide +kernel
theorem dL_law_267 : decode cL_law 267 = .ok (.iload_n 3, 1) := by decide +kernel
theorem dL_law_268 : decode cL_law 268 = .ok (.iconst 1, 1) := by decide +kernel
theorem dL_law_269 : decode cL_law 269 = .ok (.iadd, 1) := by decide +kernel
theorem dL_law_270 : decode cL_law 270 = .ok (.iaload, 1) := by decide +kernel
theorem dL_law_271 : decode cL_law 271 = .ok (.aload_n 0, 1) := by decide +kernel
theorem dL_law_272 : decode cL_law 272 = .ok (.iload_n 3, 1) := by decide +kernel
theorem dL_law_273 : decode cL_law 273 = .ok (.iconst 2, 1) := by decide +kernel
theorem dL_law_274 : decode cL_law 274 = .ok (.iadd, 1) := by decide +kernel
theorem dL_law_275 : decode cL_law 275 = .ok (.iaload, 1) := by decide +kernel
theorem dL_law_276 : decode cL_law 276 = .ok (.invokevirtual 31, 3) := by decide +kernel
theorem dL_law_279 : decode cL_law 279 = .ok (.if_icmp .eq 501, 3) := by decide +kernel
theorem dL_law_282 : decode cL_law 282 = .ok (.iconst 0, 1) := by decide +kernel
theorem dL_law_283 : decode cL_law 283 = .ok (.ireturn, 1) := by decide +kernel
theorem dL_law_284 : decode cL_law 284 = .ok (.aload_n 1, 1) := by decide +kernel
theorem dL_law_285 : decode cL_law 285 = .ok (.aload_n 0, 1) := by decide +kernel
theorem dL_law_286 : decode cL_law 286 = .ok (.iload_n 3, 1) := by decide +kernel
theorem dL_law_287 : decode cL_law 287 = .ok (.iconst 1, 1) := by decide +kernel
theorem dL_law_288 : decode cL_law 288 = .ok (.iadd, 1) := by decide +kernel
theorem dL_law_289 : decode cL_law 289 = .ok (.iaload, 1) := by decide +kernel
theorem dL_law_290 : decode cL_law 290 = .ok (.aload_n 0, 1) := by decide +kernel
theorem dL_law_291 : decode cL_law 291 = .ok (.iload_n 3, 1) := by decide +kernel
theorem dL_law_292 : decode cL_law 292 = .ok (.iconst 2, 1) := by decide +kernel
theorem dL_law_293 : decode cL_law 293 = .ok (.iadd, 1) := by decide +kernel
theorem dL_law_294 : decode cL_law 294 = .ok (.iaload, 1) := by decide +kernel
theorem dL_law_295 : decode cL_law 295 = .ok (.invokevirtual 32, 3) := by decide +kernel
theorem dL_law_298 : decode cL_law 298 = .ok (.aload_n 2, 1) := by decide +kernel
theorem dL_law_299 : decode cL_law 299 = .ok (.aload_n 0, 1) := by decide +kernel
theorem dL_law_300 : decode cL_law 300 = .ok (.iload_n 3, 1) := by decide +kernel
theorem dL_law_301 : decode cL_law 301 = .ok (.iconst 1, 1) := by decide +kernel
theorem dL_law_302 : decode cL_law 302 = .ok (.iadd, 1) := by decide +kernel
theorem dL_law_303 : decode cL_law 303 = .ok (.iaload, 1) := by decide +kernel
theorem dL_law_304 : decode cL_law 304 = .ok (.aload_n 0, 1) := by decide +kernel
theorem dL_law_305 : decode cL_law 305 = .ok (.iload_n 3, 1) := by decide +kernel
theorem dL_law_306 : decode cL_law 306 = .ok (.iconst 2, 1) := by decide +kernel
theorem dL_law_307 : decode cL_law 307 = .ok (.iadd, 1) := by decide +kernel
theorem dL_law_308 : decode cL_law 308 = .ok (.iaload, 1) := by decide +kernel
theorem dL_law_309 : decode cL_law 309 = .ok (.invokevirtual 35, 3) := by decide +kernel
theorem dL_law_312 : decode cL_law 312 = .ok (.if_icmp .eq 468, 3) := by decide +kernel
theorem dL_law_315 : decode cL_law 315 = .ok (.iconst 0, 1) := by decide +kernel
theorem dL_law_316 : decode cL_law 316 = .ok (.ireturn, 1) := by decide +kernel
theorem dL_law_317 : decode cL_law 317 = .ok (.aload_n 1, 1) := by decide +kernel
theorem dL_law_318 : decode cL_law 318 = .ok (.aload_n 0, 1) := by decide +kernel
theorem dL_law_319 : decode cL_law 319 = .ok (.iload_n 3, 1) := by decide +kernel
theorem dL_law_320 : decode cL_law 320 = .ok (.iconst 1, 1) := by decide +kernel
theorem dL_law_321 : decode cL_law 321 = .ok (.iadd, 1) := by decide +kernel
theorem dL_law_322 : decode cL_law 322 = .ok (.iaload, 1) := by decide +kernel
theorem dL_law_323 : decode cL_law 323 = .ok (.invokevirtual 36, 3) := by decide +kernel
theorem dL_law_326 : decode cL_law 326 = .ok (.aload_n 2, 1) := by decide +kernel
theorem dL_law_327 : decode cL_law 327 = .ok (.aload_n 0, 1) := by decide +kernel
theorem dL_law_328 : decode cL_law 328 = .ok (.iload_n 3, 1) := by decide +kernel
theorem dL_law_329 : decode cL_law 329 = .ok (.iconst 1, 1) := by decide +kernel
theorem dL_law_330 : decode cL_law 330 = .ok (.iadd, 1) := by decide +kernel
theorem dL_law_331 : decode cL_law 331 = .ok (.iaload, 1) := by decide +kernel
theorem dL_law_332 : decode cL_law 332 = .ok (.invokevirtual 39, 3) := by decide +kernel
theorem dL_law_335 : decode cL_law 335 = .ok (.if_icmp .eq 445, 3) := by decide +kernel
theorem dL_law_338 : decode cL_law 338 = .ok (.iconst 0, 1) := by decide +kernel
theorem dL_law_339 : decode cL_law 339 = .ok (.ireturn, 1) := by decide +kernel
theorem dL_law_340 : decode cL_law 340 = .ok (.aload_n 1, 1) := by decide +kernel
theorem dL_law_341 : decode cL_law 341 = .ok (.aload_n 0, 1) := by decide +kernel
theorem dL_law_342 : decode cL_law 342 = .ok (.iload_n 3, 1) := by decide +kernel
theorem dL_law_343 : decode cL_law 343 = .ok (.iconst 1, 1) := by decide +kernel
theorem dL_law_344 : decode cL_law 344 = .ok (.iadd, 1) := by decide +kernel
theorem dL_law_345 : decode cL_law 345 = .ok (.iaload, 1) := by decide +kernel
theorem dL_law_346 : decode cL_law 346 = .ok (.aload_n 0, 1) := by decide +kernel
theorem dL_law_347 : decode cL_law 347 = .ok (.iload_n 3, 1) := by decide +kernel
theorem dL_law_348 : decode cL_law 348 = .ok (.iconst 2, 1) := by decide +kernel
theorem dL_law_349 : decode cL_law 349 = .ok (.iadd, 1) := by decide +kernel
theorem dL_law_350 : decode cL_law 350 = .ok (.iaload, 1) := by decide +kernel
theorem dL_law_351 : decode cL_law 351 = .ok (.invokevirtual 40, 3) := by decide +kernel
theorem dL_law_354 : decode cL_law 354 = .ok (.aload_n 2, 1) := by decide +kernel
theorem dL_law_355 : decode cL_law 355 = .ok (.aload_n 0, 1) := by decide +kernel
theorem dL_law_356 : decode cL_law 356 = .ok (.iload_n 3, 1) := by decide +kernel
theorem dL_law_357 : decode cL_law 357 = .ok (.iconst 1, 1) := by decide +kernel
theorem dL_law_358 : decode cL_law 358 = .ok (.iadd, 1) := by decide +kernel
theorem dL_law_359 : decode cL_law 359 = .ok (.iaload, 1) := by decide +kernel
theorem dL_law_360 : decode cL_law 360 = .ok (.aload_n 0, 1) := by decide +kernel
theorem dL_law_361 : decode cL_law 361 = .ok (.iload_n 3, 1) := by decide +kernel
theorem dL_law_362 : decode cL_law 362 = .ok (.iconst 2, 1) := by decide +kernel
theorem dL_law_363 : decode cL_law 363 = .ok (.iadd, 1) := by decide +kernel
theorem dL_law_364 : decode cL_law 364 = .ok (.iaload, 1) := by decide +kernel
theorem dL_law_365 : decode cL_law 365 = .ok (.invokevirtual 43, 3) := by decide +kernel
theorem dL_law_368 : decode cL_law 368 = .ok (.if_icmp .eq 412, 3) := by decide +kernel
theorem dL_law_371 : decode cL_law 371 = .ok (.iconst 0, 1) := by decide +kernel
theorem dL_law_372 : decode cL_law 372 = .ok (.ireturn, 1) := by decide +kernel
theorem dL_law_373 : decode cL_law 373 = .ok (.aload_n 1, 1) := by decide +kernel
theorem dL_law_374 : decode cL_law 374 = .ok (.aload_n 0, 1) := by decide +kernel
theorem dL_law_375 : decode cL_law 375 = .ok (.iload_n 3, 1) := by decide +kernel
theorem dL_law_376 : decode cL_law 376 = .ok (.iconst 1, 1) := by decide +kernel
theorem dL_law_377 : decode cL_law 377 = .ok (.iadd, 1) := by decide +kernel
theorem dL_law_378 : decode cL_law 378 = .ok (.iaload, 1) := by decide +kernel
theorem dL_law_379 : decode cL_law 379 = .ok (.invokevirtual 44, 3) := by decide +kernel
theorem dL_law_382 : decode cL_law 382 = .ok (.aload_n 2, 1) := by decide +kernel
theorem dL_law_383 : decode cL_law 383 = .ok (.aload_n 0, 1) := by decide +kernel
theorem dL_law_384 : decode cL_law 384 = .ok (.iload_n 3, 1) := by decide +kernel
theorem dL_law_385 : decode cL_law 385 = .ok (.iconst 1, 1) := by decide +kernel
theorem dL_law_386 : decode cL_law 386 = .ok (.iadd, 1) := by decide +kernel
theorem dL_law_387 : decode cL_law 387 = .ok (.iaload, 1) := by decide +kernel
theorem dL_law_388 : decode cL_law 388 = .ok (.invokevirtual 47, 3) := by decide +kernel
theorem dL_law_391 : decode cL_law 391 = .ok (.if_icmp .eq 389, 3) := by decide +kernel
theorem dL_law_394 : decode cL_law 394 = .ok (.iconst 0, 1) := by decide +kernel
theorem dL_law_395 : decode cL_law 395 = .ok (.ireturn, 1) := by decide +kernel
theorem dL_law_396 : decode cL_law 396 = .ok (.aload_n 1, 1) := by decide +kernel
theorem dL_law_397 : decode cL_law 397 = .ok (.aload_n 0, 1) := by decide +kernel
theorem dL_law_398 : decode cL_law 398 = .ok (.iload_n 3, 1) := by decide +kernel
theorem dL_law_399 : decode cL_law 399 = .ok (.iconst 1, 1) := by decide +kernel
theorem dL_law_400 : decode cL_law 400 = .ok (.iadd, 1) := by decide +kernel
theorem dL_law_401 : decode cL_law 401 = .ok (.iaload, 1) := by decide +kernel
theorem dL_law_402 : decode cL_law 402 = .ok (.aload_n 0, 1) := by decide +kernel
theorem dL_law_403 : decode cL_law 403 = .ok (.iload_n 3, 1) := by decide +kernel
theorem dL_law_404 : decode cL_law 404 = .ok (.iconst 2, 1) := by decide +kernel
theorem dL_law_405 : decode cL_law 405 = .ok (.iadd, 1) := by decide +kernel
theorem dL_law_406 : decode cL_law 406 = .ok (.iaload, 1) := by decide +kernel
theorem dL_law_407 : decode cL_law 407 = .ok (.invokevirtual 48, 3) := by decide +kernel
theorem dL_law_410 : decode cL_law 410 = .ok (.aload_n 2, 1) := by decide +kernel
theorem dL_law_411 : decode cL_law 411 = .ok (.aload_n 0, 1) := by decide +kernel
theorem dL_law_412 : decode cL_law 412 = .ok (.iload_n 3, 1) := by decide +kernel
theorem dL_law_413 : decode cL_law 413 = .ok (.iconst 1, 1) := by decide +kernel
theorem dL_law_414 : decode cL_law 414 = .ok (.iadd, 1) := by decide +kernel
theorem dL_law_415 : decode cL_law 415 = .ok (.iaload, 1) := by decide +kernel
theorem dL_law_416 : decode cL_law 416 = .ok (.aload_n 0, 1) := by decide +kernel
theorem dL_law_417 : decode cL_law 417 = .ok (.iload_n 3, 1) := by decide +kernel
theorem dL_law_418 : decode cL_law 418 = .ok (.iconst 2, 1) := by decide +kernel
theorem dL_law_419 : decode cL_law 419 = .ok (.iadd, 1) := by decide +kernel
theorem dL_law_420 : decode cL_law 420 = .ok (.iaload, 1) := by decide +kernel
theorem dL_law_421 : decode cL_law 421 = .ok (.invokevirtual 51, 3) := by decide +kernel
theorem dL_law_424 : decode cL_law 424 = .ok (.if_icmp .eq 356, 3) := by decide +kernel
theorem dL_law_427 : decode cL_law 427 = .ok (.iconst 0, 1) := by decide +kernel
theorem dL_law_428 : decode cL_law 428 = .ok (.ireturn, 1) := by decide +kernel
theorem dL_law_429 : decode cL_law 429 = .ok (.aload_n 1, 1) := by decide +kernel
theorem dL_law_430 : decode cL_law 430 = .ok (.aload_n 0, 1) := by decide +kernel
theorem dL_law_431 : decode cL_law 431 = .ok (.iload_n 3, 1) := by decide +kernel
theorem dL_law_432 : decode cL_law 432 = .ok (.iconst 1, 1) := by decide +kernel
theorem dL_law_433 : decode cL_law 433 = .ok (.iadd, 1) := by decide +kernel
theorem dL_law_434 : decode cL_law 434 = .ok (.iaload, 1) := by decide +kernel
theorem dL_law_435 : decode cL_law 435 = .ok (.invokevirtual 52, 3) := by decide +kernel
theorem dL_law_438 : decode cL_law 438 = .ok (.aload_n 2, 1) := by decide +kernel
theorem dL_law_439 : decode cL_law 439 = .ok (.aload_n 0, 1) := by decide +kernel
theorem dL_law_440 : decode cL_law 440 = .ok (.iload_n 3, 1) := by decide +kernel
theorem dL_law_441 : decode cL_law 441 = .ok (.iconst 1, 1) := by decide +kernel
theorem dL_law_442 : decode cL_law 442 = .ok (.iadd, 1) := by decide +kernel
theorem dL_law_443 : decode cL_law 443 = .ok (.iaload, 1) := by decide +kernel
theorem dL_law_444 : decode cL_law 444 = .ok (.invokevirtual 55, 3) := by decide +kernel
theorem dL_law_447 : decode cL_law 447 = .ok (.if_icmp .eq 333, 3) := by decide +kernel
theorem dL_law_450 : decode cL_law 450 = .ok (.iconst 0, 1) := by decide +kernel
theorem dL_law_451 : decode cL_law 451 = .ok (.ireturn, 1) := by decide +kernel
theorem dL_law_452 : decode cL_law 452 = .ok (.aload_n 1, 1) := by decide +kernel
theorem dL_law_453 : decode cL_law 453 = .ok (.invokevirtual 56, 3) := by decide +kernel
theorem dL_law_456 : decode cL_law 456 = .ok (.aload_n 2, 1) := by decide +kernel
theorem dL_law_457 : decode cL_law 457 = .ok (.invokevirtual 60, 3) := by decide +kernel
theorem dL_law_460 : decode cL_law 460 = .ok (.if_icmp .eq 320, 3) := by decide +kernel
theorem dL_law_463 : decode cL_law 463 = .ok (.iconst 0, 1) := by decide +kernel
theorem dL_law_464 : decode cL_law 464 = .ok (.ireturn, 1) := by decide +kernel
theorem dL_law_465 : decode cL_law 465 = .ok (.aload_n 1, 1) := by decide +kernel
theorem dL_law_466 : decode cL_law 466 = .ok (.invokevirtual 61, 3) := by decide +kernel
theorem dL_law_469 : decode cL_law 469 = .ok (.aload_n 2, 1) := by decide +kernel
theorem dL_law_470 : decode cL_law 470 = .ok (.invokevirtual 64, 3) := by decide +kernel
theorem dL_law_473 : decode cL_law 473 = .ok (.if_icmp .eq 307, 3) := by decide +kernel
theorem dL_law_476 : decode cL_law 476 = .ok (.iconst 0, 1) := by decide +kernel
theorem dL_law_477 : decode cL_law 477 = .ok (.ireturn, 1) := by decide +kernel
theorem dL_law_478 : decode cL_law 478 = .ok (.aload_n 1, 1) := by decide +kernel
theorem dL_law_479 : decode cL_law 479 = .ok (.aload_n 0, 1) := by decide +kernel
theorem dL_law_480 : decode cL_law 480 = .ok (.iload_n 3, 1) := by decide +kernel
theorem dL_law_481 : decode cL_law 481 = .ok (.iconst 1, 1) := by decide +kernel
theorem dL_law_482 : decode cL_law 482 = .ok (.iadd, 1) := by decide +kernel
theorem dL_law_483 : decode cL_law 483 = .ok (.iaload, 1) := by decide +kernel
theorem dL_law_484 : decode cL_law 484 = .ok (.invokevirtual 65, 3) := by decide +kernel
theorem dL_law_487 : decode cL_law 487 = .ok (.aload_n 2, 1) := by decide +kernel
theorem dL_law_488 : decode cL_law 488 = .ok (.aload_n 0, 1) := by decide +kernel
theorem dL_law_489 : decode cL_law 489 = .ok (.iload_n 3, 1) := by decide +kernel
theorem dL_law_490 : decode cL_law 490 = .ok (.iconst 1, 1) := by decide +kernel
theorem dL_law_491 : decode cL_law 491 = .ok (.iadd, 1) := by decide +kernel
theorem dL_law_492 : decode cL_law 492 = .ok (.iaload, 1) := by decide +kernel
theorem dL_law_493 : decode cL_law 493 = .ok (.invokevirtual 68, 3) := by decide +kernel
theorem dL_law_496 : decode cL_law 496 = .ok (.if_icmp .eq 284, 3) := by decide +kernel
theorem dL_law_499 : decode cL_law 499 = .ok (.iconst 0, 1) := by decide +kernel
theorem dL_law_500 : decode cL_law 500 = .ok (.ireturn, 1) := by decide +kernel
theorem dL_law_501 : decode cL_law 501 = .ok (.aload_n 1, 1) := by decide +kernel
theorem dL_law_502 : decode cL_law 502 = .ok (.invokevirtual 69, 3) := by decide +kernel
theorem dL_law_505 : decode cL_law 505 = .ok (.aload_n 2, 1) := by decide +kernel
theorem dL_law_506 : decode cL_law 506 = .ok (.invokevirtual 72, 3) := by decide +kernel
theorem dL_law_509 : decode cL_law 509 = .ok (.if_icmp .eq 271, 3) := by decide +kernel
theorem dL_law_512 : decode cL_law 512 = .ok (.iconst 0, 1) := by decide +kernel
theorem dL_law_513 : decode cL_law 513 = .ok (.ireturn, 1) := by decide +kernel
theorem dL_law_514 : decode cL_law 514 = .ok (.aload_n 1, 1) := by decide +kernel
theorem dL_law_515 : decode cL_law 515 = .ok (.invokevirtual 73, 3) := by decide +kernel
theorem dL_law_518 : decode cL_law 518 = .ok (.aload_n 2, 1) := by decide +kernel
theorem dL_law_519 : decode cL_law 519 = .ok (.invokevirtual 76, 3) := by decide +kernel
theorem dL_law_522 : decode cL_law 522 = .ok (.if_icmp .eq 258, 3) := by decide +kernel
theorem dL_law_525 : decode cL_law 525 = .ok (.iconst 0, 1) := by decide +kernel
theorem dL_law_526 : decode cL_law 526 = .ok (.ireturn, 1) := by decide +kernel
theorem dL_law_527 : decode cL_law 527 = .ok (.aload_n 1, 1) := by decide +kernel
theorem dL_law_528 : decode cL_law 528 = .ok (.aload_n 0, 1) := by decide +kernel
theorem dL_law_529 : decode cL_law 529 = .ok (.iload_n 3, 1) := by decide +kernel
theorem dL_law_530 : decode cL_law 530 = .ok (.iconst 1, 1) := by decide +kernel
theorem dL_law_531 : decode cL_law 531 = .ok (.iadd, 1) := by decide +kernel
theorem dL_law_532 : decode cL_law 532 = .ok (.iaload, 1) := by decide +kernel
theorem dL_law_533 : decode cL_law 533 = .ok (.invokevirtual 77, 3) := by decide +kernel
theorem dL_law_536 : decode cL_law 536 = .ok (.aload_n 2, 1) := by decide +kernel
theorem dL_law_537 : decode cL_law 537 = .ok (.aload_n 0, 1) := by decide +kernel
theorem dL_law_538 : decode cL_law 538 = .ok (.iload_n 3, 1) := by decide +kernel
theorem dL_law_539 : decode cL_law 539 = .ok (.iconst 1, 1) := by decide +kernel
theorem dL_law_540 : decode cL_law 540 = .ok (.iadd, 1) := by decide +kernel
theorem dL_law_541 : decode cL_law 541 = .ok (.iaload, 1) := by decide +kernel
theorem dL_law_542 : decode cL_law 542 = .ok (.invokevirtual 80, 3) := by decide +kernel
theorem dL_law_545 : decode cL_law 545 = .ok (.if_icmp .eq 235, 3) := by decide +kernel
theorem dL_law_548 : decode cL_law 548 = .ok (.iconst 0, 1) := by decide +kernel
theorem dL_law_549 : decode cL_law 549 = .ok (.ireturn, 1) := by decide +kernel
theorem dL_law_550 : decode cL_law 550 = .ok (.aload_n 1, 1) := by decide +kernel
theorem dL_law_551 : decode cL_law 551 = .ok (.invokevirtual 81, 3) := by decide +kernel
theorem dL_law_554 : decode cL_law 554 = .ok (.aload_n 2, 1) := by decide +kernel
theorem dL_law_555 : decode cL_law 555 = .ok (.invokevirtual 84, 3) := by decide +kernel
theorem dL_law_558 : decode cL_law 558 = .ok (.if_icmp .eq 222, 3) := by decide +kernel
theorem dL_law_561 : decode cL_law 561 = .ok (.iconst 0, 1) := by decide +kernel
theorem dL_law_562 : decode cL_law 562 = .ok (.ireturn, 1) := by decide +kernel
theorem dL_law_563 : decode cL_law 563 = .ok (.aload_n 1, 1) := by decide +kernel
theorem dL_law_564 : decode cL_law 564 = .ok (.aload_n 0, 1) := by decide +kernel
theorem dL_law_565 : decode cL_law 565 = .ok (.iload_n 3, 1) := by decide +kernel
theorem dL_law_566 : decode cL_law 566 = .ok (.iconst 1, 1) := by decide +kernel
theorem dL_law_567 : decode cL_law 567 = .ok (.iadd, 1) := by decide +kernel
theorem dL_law_568 : decode cL_law 568 = .ok (.iaload, 1) := by decide +kernel
theorem dL_law_569 : decode cL_law 569 = .ok (.invokevirtual 85, 3) := by decide +kernel
theorem dL_law_572 : decode cL_law 572 = .ok (.aload_n 2, 1) := by decide +kernel
theorem dL_law_573 : decode cL_law 573 = .ok (.aload_n 0, 1) := by decide +kernel
theorem dL_law_574 : decode cL_law 574 = .ok (.iload_n 3, 1) := by decide +kernel
theorem dL_law_575 : decode cL_law 575 = .ok (.iconst 1, 1) := by decide +kernel
theorem dL_law_576 : decode cL_law 576 = .ok (.iadd, 1) := by decide +kernel
theorem dL_law_577 : decode cL_law 577 = .ok (.iaload, 1) := by decide +kernel
theorem dL_law_578 : decode cL_law 578 = .ok (.invokevirtual 88, 3) := by decide +kernel
theorem dL_law_581 : decode cL_law 581 = .ok (.if_icmp .eq 199, 3) := by decide +kernel
theorem dL_law_584 : decode cL_law 584 = .ok (.iconst 0, 1) := by decide +kernel
theorem dL_law_585 : decode cL_law 585 = .ok (.ireturn, 1) := by decide +kernel
theorem dL_law_586 : decode cL_law 586 = .ok (.aload_n 1, 1) := by decide +kernel
theorem dL_law_587 : decode cL_law 587 = .ok (.aload_n 0, 1) := by decide +kernel
theorem dL_law_588 : decode cL_law 588 = .ok (.iload_n 3, 1) := by decide +kernel
theorem dL_law_589 : decode cL_law 589 = .ok (.iconst 1, 1) := by decide +kernel
theorem dL_law_590 : decode cL_law 590 = .ok (.iadd, 1) := by decide +kernel
theorem dL_law_591 : decode cL_law 591 = .ok (.iaload, 1) := by decide +kernel
theorem dL_law_592 : decode cL_law 592 = .ok (.invokevirtual 89, 3) := by decide +kernel
theorem dL_law_595 : decode cL_law 595 = .ok (.aload_n 2, 1) := by decide +kernel
theorem dL_law_596 : decode cL_law 596 = .ok (.aload_n 0, 1) := by decide +kernel
theorem dL_law_597 : decode cL_law 597 = .ok (.iload_n 3, 1) := by decide +kernel
theorem dL_law_598 : decode cL_law 598 = .ok (.iconst 1, 1) := by decide +kernel
theorem dL_law_599 : decode cL_law 599 = .ok (.iadd, 1) := by decide +kernel
theorem dL_law_600 : decode cL_law 600 = .ok (.iaload, 1) := by decide +kernel
theorem dL_law_601 : decode cL_law 601 = .ok (.invokevirtual 92, 3) := by decide +kernel
theorem dL_law_604 : decode cL_law 604 = .ok (.if_icmp .eq 176, 3) := by decide +kernel
theorem dL_law_607 : decode cL_law 607 = .ok (.iconst 0, 1) := by decide +kernel
theorem dL_law_608 : decode cL_law 608 = .ok (.ireturn, 1) := by decide +kernel
theorem dL_law_609 : decode cL_law 609 = .ok (.aload_n 1, 1) := by decide +kernel
theorem dL_law_610 : decode cL_law 610 = .ok (.aload_n 0, 1) := by decide +kernel
theorem dL_law_611 : decode cL_law 611 = .ok (.iload_n 3, 1) := by decide +kernel
theorem dL_law_612 : decode cL_law 612 = .ok (.iconst 1, 1) := by decide +kernel
theorem dL_law_613 : decode cL_law 613 = .ok (.iadd, 1) := by decide +kernel
theorem dL_law_614 : decode cL_law 614 = .ok (.iaload, 1) := by decide +kernel
theorem dL_law_615 : decode cL_law 615 = .ok (.invokevirtual 93, 3) := by decide +kernel
theorem dL_law_618 : decode cL_law 618 = .ok (.aload_n 2, 1) := by decide +kernel
theorem dL_law_619 : decode cL_law 619 = .ok (.aload_n 0, 1) := by decide +kernel
theorem dL_law_620 : decode cL_law 620 = .ok (.iload_n 3, 1) := by decide +kernel
theorem dL_law_621 : decode cL_law 621 = .ok (.iconst 1, 1) := by decide +kernel
theorem dL_law_622 : decode cL_law 622 = .ok (.iadd, 1) := by decide +kernel
theorem dL_law_623 : decode cL_law 623 = .ok (.iaload, 1) := by decide +kernel
theorem dL_law_624 : decode cL_law 624 = .ok (.invokevirtual 96, 3) := by decide +kernel
theorem dL_law_627 : decode cL_law 627 = .ok (.if_icmp .eq 153, 3) := by decide +kernel
theorem dL_law_630 : decode cL_law 630 = .ok (.iconst 0, 1) := by decide +kernel
theorem dL_law_631 : decode cL_law 631 = .ok (.ireturn, 1) := by decide +kernel
theorem dL_law_632 : decode cL_law 632 = .ok (.aload_n 1, 1) := by decide +kernel
theorem dL_law_633 : decode cL_law 633 = .ok (.aload_n 0, 1) := by decide +kernel
theorem dL_law_634 : decode cL_law 634 = .ok (.iload_n 3, 1) := by decide +kernel
theorem dL_law_635 : decode cL_law 635 = .ok (.iconst 1, 1) := by decide +kernel
theorem dL_law_636 : decode cL_law 636 = .ok (.iadd, 1) := by decide +kernel
theorem dL_law_637 : decode cL_law 637 = .ok (.iaload, 1) := by decide +kernel
theorem dL_law_638 : decode cL_law 638 = .ok (.invokevirtual 97, 3) := by decide +kernel
theorem dL_law_641 : decode cL_law 641 = .ok (.aload_n 2, 1) := by decide +kernel
theorem dL_law_642 : decode cL_law 642 = .ok (.aload_n 0, 1) := by decide +kernel
theorem dL_law_643 : decode cL_law 643 = .ok (.iload_n 3, 1) := by decide +kernel
theorem dL_law_644 : decode cL_law 644 = .ok (.iconst 1, 1) := by decide +kernel
theorem dL_law_645 : decode cL_law 645 = .ok (.iadd, 1) := by decide +kernel
theorem dL_law_646 : decode cL_law 646 = .ok (.iaload, 1) := by decide +kernel
theorem dL_law_647 : decode cL_law 647 = .ok (.invokevirtual 100, 3) := by decide +kernel
theorem dL_law_650 : decode cL_law 650 = .ok (.if_icmp .eq 130, 3) := by decide +kernel
theorem dL_law_653 : decode cL_law 653 = .ok (.iconst 0, 1) := by decide +kernel
theorem dL_law_654 : decode cL_law 654 = .ok (.ireturn, 1) := by decide +kernel
theorem dL_law_655 : decode cL_law 655 = .ok (.aload_n 1, 1) := by decide +kernel
theorem dL_law_656 : decode cL_law 656 = .ok (.aload_n 0, 1) := by decide +kernel
theorem dL_law_657 : decode cL_law 657 = .ok (.iload_n 3, 1) := by decide +kernel
theorem dL_law_658 : decode cL_law 658 = .ok (.iconst 1, 1) := by decide +kernel
theorem dL_law_659 : decode cL_law 659 = .ok (.iadd, 1) := by decide +kernel
theorem dL_law_660 : decode cL_law 660 = .ok (.iaload, 1) := by decide +kernel
theorem dL_law_661 : decode cL_law 661 = .ok (.aload_n 0, 1) := by decide +kernel
theorem dL_law_662 : decode cL_law 662 = .ok (.iload_n 3, 1) := by decide +kernel
theorem dL_law_663 : decode cL_law 663 = .ok (.iconst 2, 1) := by decide +kernel
theorem dL_law_664 : decode cL_law 664 = .ok (.iadd, 1) := by decide +kernel
theorem dL_law_665 : decode cL_law 665 = .ok (.iaload, 1) := by decide +kernel
theorem dL_law_666 : decode cL_law 666 = .ok (.invokevirtual 101, 3) := by decide +kernel
theorem dL_law_669 : decode cL_law 669 = .ok (.aload_n 2, 1) := by decide +kernel
theorem dL_law_670 : decode cL_law 670 = .ok (.aload_n 0, 1) := by decide +kernel
theorem dL_law_671 : decode cL_law 671 = .ok (.iload_n 3, 1) := by decide +kernel
theorem dL_law_672 : decode cL_law 672 = .ok (.iconst 1, 1) := by decide +kernel
theorem dL_law_673 : decode cL_law 673 = .ok (.iadd, 1) := by decide +kernel
theorem dL_law_674 : decode cL_law 674 = .ok (.iaload, 1) := by decide +kernel
theorem dL_law_675 : decode cL_law 675 = .ok (.aload_n 0, 1) := by decide +kernel
theorem dL_law_676 : decode cL_law 676 = .ok (.iload_n 3, 1) := by decide +kernel
theorem dL_law_677 : decode cL_law 677 = .ok (.iconst 2, 1) := by decide +kernel
theorem dL_law_678 : decode cL_law 678 = .ok (.iadd, 1) := by decide +kernel
theorem dL_law_679 : decode cL_law 679 = .ok (.iaload, 1) := by decide +kernel
theorem dL_law_680 : decode cL_law 680 = .ok (.invokevirtual 104, 3) := by decide +kernel
theorem dL_law_683 : decode cL_law 683 = .ok (.if_icmp .eq 97, 3) := by decide +kernel
theorem dL_law_686 : decode cL_law 686 = .ok (.iconst 0, 1) := by decide +kernel
theorem dL_law_687 : decode cL_law 687 = .ok (.ireturn, 1) := by decide +kernel
theorem dL_law_688 : decode cL_law 688 = .ok (.aload_n 1, 1) := by decide +kernel
theorem dL_law_689 : decode cL_law 689 = .ok (.aload_n 0, 1) := by decide +kernel
theorem dL_law_690 : decode cL_law 690 = .ok (.iload_n 3, 1) := by decide +kernel
theorem dL_law_691 : decode cL_law 691 = .ok (.iconst 1, 1) := by decide +kernel
theorem dL_law_692 : decode cL_law 692 = .ok (.iadd, 1) := by decide +kernel
theorem dL_law_693 : decode cL_law 693 = .ok (.iaload, 1) := by decide +kernel
theorem dL_law_694 : decode cL_law 694 = .ok (.invokevirtual 105, 3) := by decide +kernel
theorem dL_law_697 : decode cL_law 697 = .ok (.aload_n 2, 1) := by decide +kernel
theorem dL_law_698 : decode cL_law 698 = .ok (.aload_n 0, 1) := by decide +kernel
theorem dL_law_699 : decode cL_law 699 = .ok (.iload_n 3, 1) := by decide +kernel
theorem dL_law_700 : decode cL_law 700 = .ok (.iconst 1, 1) := by decide +kernel
theorem dL_law_701 : decode cL_law 701 = .ok (.iadd, 1) := by decide +kernel
theorem dL_law_702 : decode cL_law 702 = .ok (.iaload, 1) := by decide +kernel
theorem dL_law_703 : decode cL_law 703 = .ok (.invokevirtual 108, 3) := by decide +kernel
theorem dL_law_706 : decode cL_law 706 = .ok (.if_icmp .eq 74, 3) := by decide +kernel
theorem dL_law_709 : decode cL_law 709 = .ok (.iconst 0, 1) := by decide +kernel
theorem dL_law_710 : decode cL_law 710 = .ok (.ireturn, 1) := by decide +kernel
theorem dL_law_711 : decode cL_law 711 = .ok (.aload_n 1, 1) := by decide +kernel
theorem dL_law_712 : decode cL_law 712 = .ok (.aload_n 0, 1) := by decide +kernel
theorem dL_law_713 : decode cL_law 713 = .ok (.iload_n 3, 1) := by decide +kernel
theorem dL_law_714 : decode cL_law 714 = .ok (.iconst 1, 1) := by decide +kernel
theorem dL_law_715 : decode cL_law 715 = .ok (.iadd, 1) := by decide +kernel
theorem dL_law_716 : decode cL_law 716 = .ok (.iaload, 1) := by decide +kernel
theorem dL_law_717 : decode cL_law 717 = .ok (.invokevirtual 109, 3) := by decide +kernel
theorem dL_law_720 : decode cL_law 720 = .ok (.aload_n 2, 1) := by decide +kernel
theorem dL_law_721 : decode cL_law 721 = .ok (.aload_n 0, 1) := by decide +kernel
theorem dL_law_722 : decode cL_law 722 = .ok (.iload_n 3, 1) := by decide +kernel
theorem dL_law_723 : decode cL_law 723 = .ok (.iconst 1, 1) := by decide +kernel
theorem dL_law_724 : decode cL_law 724 = .ok (.iadd, 1) := by decide +kernel
theorem dL_law_725 : decode cL_law 725 = .ok (.iaload, 1) := by decide +kernel
theorem dL_law_726 : decode cL_law 726 = .ok (.invokevirtual 112, 3) := by decide +kernel
theorem dL_law_729 : decode cL_law 729 = .ok (.if_icmp .eq 51, 3) := by decide +kernel
theorem dL_law_732 : decode cL_law 732 = .ok (.iconst 0, 1) := by decide +kernel
theorem dL_law_733 : decode cL_law 733 = .ok (.ireturn, 1) := by decide +kernel
theorem dL_law_734 : decode cL_law 734 = .ok (.aload_n 1, 1) := by decide +kernel
theorem dL_law_735 : decode cL_law 735 = .ok (.aload_n 0, 1) := by decide +kernel
theorem dL_law_736 : decode cL_law 736 = .ok (.iload_n 3, 1) := by decide +kernel
theorem dL_law_737 : decode cL_law 737 = .ok (.iconst 1, 1) := by decide +kernel
theorem dL_law_738 : decode cL_law 738 = .ok (.iadd, 1) := by decide +kernel
theorem dL_law_739 : decode cL_law 739 = .ok (.iaload, 1) := by decide +kernel
theorem dL_law_740 : decode cL_law 740 = .ok (.invokevirtual 113, 3) := by decide +kernel
theorem dL_law_743 : decode cL_law 743 = .ok (.aload_n 2, 1) := by decide +kernel
theorem dL_law_744 : decode cL_law 744 = .ok (.aload_n 0, 1) := by decide +kernel
theorem dL_law_745 : decode cL_law 745 = .ok (.iload_n 3, 1) := by decide +kernel
theorem dL_law_746 : decode cL_law 746 = .ok (.iconst 1, 1) := by decide +kernel
theorem dL_law_747 : decode cL_law 747 = .ok (.iadd, 1) := by decide +kernel
theorem dL_law_748 : decode cL_law 748 = .ok (.iaload, 1) := by decide +kernel
theorem dL_law_749 : decode cL_law 749 = .ok (.invokevirtual 116, 3) := by decide +kernel
theorem dL_law_752 : decode cL_law 752 = .ok (.if_icmp .eq 28, 3) := by decide +kernel
theorem dL_law_755 : decode cL_law 755 = .ok (.iconst 0, 1) := by decide +kernel
theorem dL_law_756 : decode cL_law 756 = .ok (.ireturn, 1) := by decide +kernel
theorem dL_law_757 : decode cL_law 757 = .ok (.aload_n 1, 1) := by decide +kernel
theorem dL_law_758 : decode cL_law 758 = .ok (.aload_n 0, 1) := by decide +kernel
theorem dL_law_759 : decode cL_law 759 = .ok (.iload_n 3, 1) := by decide +kernel
theorem dL_law_760 : decode cL_law 760 = .ok (.iconst 1, 1) := by decide +kernel
theorem dL_law_761 : decode cL_law 761 = .ok (.iadd, 1) := by decide +kernel
theorem dL_law_762 : decode cL_law 762 = .ok (.iaload, 1) := by decide +kernel
theorem dL_law_763 : decode cL_law 763 = .ok (.invokevirtual 117, 3) := by decide +kernel
theorem dL_law_766 : decode cL_law 766 = .ok (.aload_n 2, 1) := by decide +kernel
theorem dL_law_767 : decode cL_law 767 = .ok (.aload_n 0, 1) := by decide +kernel
theorem dL_law_768 : decode cL_law 768 = .ok (.iload_n 3, 1) := by decide +kernel
theorem dL_law_769 : decode cL_law 769 = .ok (.iconst 1, 1) := by decide +kernel
theorem dL_law_770 : decode cL_law 770 = .ok (.iadd, 1) := by decide +kernel
theorem dL_law_771 : decode cL_law 771 = .ok (.iaload, 1) := by decide +kernel
theorem dL_law_772 : decode cL_law 772 = .ok (.invokevirtual 120, 3) := by decide +kernel
theorem dL_law_775 : decode cL_law 775 = .ok (.if_icmp .eq 5, 3) := by decide +kernel
theorem dL_law_778 : decode cL_law 778 = .ok (.iconst 0, 1) := by decide +kernel
theorem dL_law_779 : decode cL_law 779 = .ok (.ireturn, 1) := by decide +kernel
theorem dL_law_780 : decode cL_law 780 = .ok (.iinc 3 5, 3) := by decide +kernel
theorem dL_law_783 : decode cL_law 783 = .ok (.goto (-765), 3) := by decide +kernel
theorem dL_law_786 : decode cL_law 786 = .ok (.iconst 1, 1) := by decide +kernel
theorem dL_law_787 : decode cL_law 787 = .ok (.ireturn, 1) := by decide +kernel
end
section
/-! what the tables say, word by word, each by its place in lw_tbl -/
def gw (w : Cond) : Bool := w.onTables && (w.keeps || (match w with | .methodLinkNest _ _ _ _ => true | _ => false))
/-- of a class: its table of fields, and that the tables have it -/
def CF (ci : Nat) (C : String) (T : u_T) (N : Nat) (ty : Nat → FieldType) : Prop :=
  vwCl[ci]? = some (C, T, N) ∧ (∀ w ∈ u_ws C T N, w ∈ lw_tbl ∧ gw w = true) ∧ (∀ k, k < N → parseFieldDescriptor (T k).2.2.1 = some (ty k)) ∧ (∀ a, a < N → ∀ b, b < N → a ≠ b → (T a).2.1 ≠ (T b).2.1)
/-- of a method: what a call needs -/
def MF (y : MethodName) (bytes : ByteArray) (maxL : Nat) (ret : Option FieldType) (n : Nat) : Prop :=
  Cond.code y bytes maxL ret ∈ lw_tbl ∧ Cond.initialized y.cls ∈ lw_tbl ∧ (y.cls ≠ "java/lang/invoke/MethodHandle" ∧ y.cls ≠ "java/lang/invoke/VarHandle") ∧ (parseMethodDescriptor y.desc).map (fun d => d.parameters.length) = some n ∧ plainFor y = true
def MV (y : MethodName) : Prop := Cond.instanceMethod y ∈ lw_tbl ∧ Cond.selects y.cls y y ∈ lw_tbl
theorem cf_X0 : CF 0 RX0 TX0 9 tyX0 := ⟨rfl, by decide +kernel, tyX0_ok, nmX0⟩
theorem cf_X1 : CF 1 RX1 TX1 3 tyX1 := ⟨rfl, by decide +kernel, tyX1_ok, nmX1⟩
theorem cf_X2 : CF 2 RX2 TX2 3 tyX2 := ⟨rfl, by decide +kernel, tyX2_ok, nmX2⟩
theorem cf_X3 : CF 3 RX3 TX3 2 tyX3 := ⟨rfl, by decide +kernel, tyX3_ok, nmX3⟩
theorem cf_X4 : CF 4 RX4 TX4 8 tyX4 := ⟨rfl, by decide +kernel, tyX4_ok, nmX4⟩
theorem cf_X5 : CF 5 RX5 TX5 10 tyX5 := ⟨rfl, by decide +kernel, tyX5_ok, nmX5⟩
theorem cf_X6 : CF 6 RX6 TX6 3 tyX6 := ⟨rfl, by decide +kernel, tyX6_ok, nmX6⟩
theorem cf_X7 : CF 7 RX7 TX7 4 tyX7 := ⟨rfl, by decide +kernel, tyX7_ok, nmX7⟩
theorem cf_X8 : CF 8 RX8 TX8 2 tyX8 := ⟨rfl, by decide +kernel, tyX8_ok, nmX8⟩
theorem cf_X9 : CF 9 RX9 TX9 10 tyX9 := ⟨rfl, by decide +kernel, tyX9_ok, nmX9⟩
theorem cf_X10 : CF 10 RX10 TX10 10 tyX10 := ⟨rfl, by decide +kernel, tyX10_ok, nmX10⟩
theorem lk_L_9 : Cond.methodLink RL 9 yX9_init ∈ lw_tbl := List.mem_of_getElem? (i := 47) (by decide +kernel)
theorem mf_X9_init : MF yX9_init cX9_init 1 none 0 := ⟨List.mem_of_getElem? (i := 49) (by decide +kernel), List.mem_of_getElem? (i := 32) (by decide +kernel), ⟨by decide +kernel, by decide +kernel⟩, by decide +kernel, by decide +kernel⟩
theorem mi_X9_init : Cond.instanceMethod yX9_init ∈ lw_tbl := List.mem_of_getElem? (i := 48) (by decide +kernel)
theorem lk_X9_1 : Cond.methodLink RX9 1 objectInit ∈ lw_tbl := List.mem_of_getElem? (i := 50) (by decide +kernel)
theorem ln_X9_9 : Cond.methodLinkNest RX9 9 yX7_init RX9 ∈ lw_tbl := List.mem_of_getElem? (i := 55) (by decide +kernel)
theorem mf_X7_init : MF yX7_init cX7_init 1 none 0 := ⟨List.mem_of_getElem? (i := 57) (by decide +kernel), List.mem_of_getElem? (i := 33) (by decide +kernel), ⟨by decide +kernel, by decide +kernel⟩, by decide +kernel, by decide +kernel⟩
theorem mi_X7_init : Cond.instanceMethod yX7_init ∈ lw_tbl := List.mem_of_getElem? (i := 56) (by decide +kernel)
theorem lk_X7_3 : Cond.methodLink RX7 3 objectInit ∈ lw_tbl := List.mem_of_getElem? (i := 58) (by decide +kernel)
theorem ln_X7_11 : Cond.methodLinkNest RX7 11 yX4_init RX9 ∈ lw_tbl := List.mem_of_getElem? (i := 61) (by decide +kernel)
theorem mf_X4_init : MF yX4_init cX4_init 1 none 0 := ⟨List.mem_of_getElem? (i := 63) (by decide +kernel), List.mem_of_getElem? (i := 34) (by decide +kernel), ⟨by decide +kernel, by decide +kernel⟩, by decide +kernel, by decide +kernel⟩
theorem mi_X4_init : Cond.instanceMethod yX4_init ∈ lw_tbl := List.mem_of_getElem? (i := 62) (by decide +kernel)
theorem lk_X4_3 : Cond.methodLink RX4 3 objectInit ∈ lw_tbl := List.mem_of_getElem? (i := 64) (by decide +kernel)
theorem ln_X4_11 : Cond.methodLinkNest RX4 11 yX5_init RX9 ∈ lw_tbl := List.mem_of_getElem? (i := 67) (by decide +kernel)
theorem mf_X5_init : MF yX5_init cX5_init 1 none 0 := ⟨List.mem_of_getElem? (i := 69) (by decide +kernel), List.mem_of_getElem? (i := 35) (by decide +kernel), ⟨by decide +kernel, by decide +kernel⟩, by decide +kernel, by decide +kernel⟩
theorem mi_X5_init : Cond.instanceMethod yX5_init ∈ lw_tbl := List.mem_of_getElem? (i := 68) (by decide +kernel)
theorem lk_X5_1 : Cond.methodLink RX5 1 objectInit ∈ lw_tbl := List.mem_of_getElem? (i := 70) (by decide +kernel)
theorem fl_X5_7 : Cond.fieldLink RX5 7 "RoastKeeper$Settings" "ambient" "I" ∈ lw_tbl := List.mem_of_getElem? (i := 71) (by decide +kernel)
theorem fl_X9_82 : Cond.fieldLink RX9 82 "RoastKeeper$Settings" "ambient" "I" ∈ lw_tbl := List.mem_of_getElem? (i := 72) (by decide +kernel)
theorem fl_X4_51 : Cond.fieldLink RX4 51 "RoastKeeper$Settings" "ambient" "I" ∈ lw_tbl := List.mem_of_getElem? (i := 73) (by decide +kernel)
theorem fl_X5_13 : Cond.fieldLink RX5 13 "RoastKeeper$Settings" "controllerOn" "I" ∈ lw_tbl := List.mem_of_getElem? (i := 74) (by decide +kernel)
theorem fl_X9_91 : Cond.fieldLink RX9 91 "RoastKeeper$Settings" "controllerOn" "I" ∈ lw_tbl := List.mem_of_getElem? (i := 75) (by decide +kernel)
theorem fl_X4_105 : Cond.fieldLink RX4 105 "RoastKeeper$Settings" "controllerOn" "I" ∈ lw_tbl := List.mem_of_getElem? (i := 76) (by decide +kernel)
theorem fl_X5_16 : Cond.fieldLink RX5 16 "RoastKeeper$Settings" "p" "I" ∈ lw_tbl := List.mem_of_getElem? (i := 77) (by decide +kernel)
theorem fl_X9_94 : Cond.fieldLink RX9 94 "RoastKeeper$Settings" "p" "I" ∈ lw_tbl := List.mem_of_getElem? (i := 78) (by decide +kernel)
theorem fl_X4_121 : Cond.fieldLink RX4 121 "RoastKeeper$Settings" "p" "I" ∈ lw_tbl := List.mem_of_getElem? (i := 79) (by decide +kernel)
theorem fl_X5_19 : Cond.fieldLink RX5 19 "RoastKeeper$Settings" "i" "I" ∈ lw_tbl := List.mem_of_getElem? (i := 80) (by decide +kernel)
theorem fl_X9_97 : Cond.fieldLink RX9 97 "RoastKeeper$Settings" "i" "I" ∈ lw_tbl := List.mem_of_getElem? (i := 81) (by decide +kernel)
theorem fl_X4_130 : Cond.fieldLink RX4 130 "RoastKeeper$Settings" "i" "I" ∈ lw_tbl := List.mem_of_getElem? (i := 82) (by decide +kernel)
theorem fl_X5_22 : Cond.fieldLink RX5 22 "RoastKeeper$Settings" "bias" "I" ∈ lw_tbl := List.mem_of_getElem? (i := 83) (by decide +kernel)
theorem fl_X9_100 : Cond.fieldLink RX9 100 "RoastKeeper$Settings" "bias" "I" ∈ lw_tbl := List.mem_of_getElem? (i := 84) (by decide +kernel)
theorem fl_X4_118 : Cond.fieldLink RX4 118 "RoastKeeper$Settings" "bias" "I" ∈ lw_tbl := List.mem_of_getElem? (i := 85) (by decide +kernel)
theorem fl_X5_25 : Cond.fieldLink RX5 25 "RoastKeeper$Settings" "lag" "I" ∈ lw_tbl := List.mem_of_getElem? (i := 86) (by decide +kernel)
theorem fl_X9_103 : Cond.fieldLink RX9 103 "RoastKeeper$Settings" "lag" "I" ∈ lw_tbl := List.mem_of_getElem? (i := 87) (by decide +kernel)
theorem fl_X4_136 : Cond.fieldLink RX4 136 "RoastKeeper$Settings" "lag" "I" ∈ lw_tbl := List.mem_of_getElem? (i := 88) (by decide +kernel)
theorem fl_X5_28 : Cond.fieldLink RX5 28 "RoastKeeper$Settings" "fouling" "I" ∈ lw_tbl := List.mem_of_getElem? (i := 89) (by decide +kernel)
theorem fl_X9_106 : Cond.fieldLink RX9 106 "RoastKeeper$Settings" "fouling" "I" ∈ lw_tbl := List.mem_of_getElem? (i := 90) (by decide +kernel)
theorem fl_X5_31 : Cond.fieldLink RX5 31 "RoastKeeper$Settings" "crackTemperature" "I" ∈ lw_tbl := List.mem_of_getElem? (i := 91) (by decide +kernel)
theorem fl_X4_72 : Cond.fieldLink RX4 72 "RoastKeeper$Settings" "crackTemperature" "I" ∈ lw_tbl := List.mem_of_getElem? (i := 92) (by decide +kernel)
theorem fl_X9_109 : Cond.fieldLink RX9 109 "RoastKeeper$Settings" "crackTemperature" "I" ∈ lw_tbl := List.mem_of_getElem? (i := 93) (by decide +kernel)
theorem fl_X5_34 : Cond.fieldLink RX5 34 "RoastKeeper$Settings" "threshold" "I" ∈ lw_tbl := List.mem_of_getElem? (i := 94) (by decide +kernel)
theorem fl_X4_99 : Cond.fieldLink RX4 99 "RoastKeeper$Settings" "threshold" "I" ∈ lw_tbl := List.mem_of_getElem? (i := 95) (by decide +kernel)
theorem fl_X9_112 : Cond.fieldLink RX9 112 "RoastKeeper$Settings" "threshold" "I" ∈ lw_tbl := List.mem_of_getElem? (i := 96) (by decide +kernel)
theorem fl_X5_37 : Cond.fieldLink RX5 37 "RoastKeeper$Settings" "fan" "I" ∈ lw_tbl := List.mem_of_getElem? (i := 97) (by decide +kernel)
theorem fl_X4_90 : Cond.fieldLink RX4 90 "RoastKeeper$Settings" "fan" "I" ∈ lw_tbl := List.mem_of_getElem? (i := 98) (by decide +kernel)
theorem fl_X9_115 : Cond.fieldLink RX9 115 "RoastKeeper$Settings" "fan" "I" ∈ lw_tbl := List.mem_of_getElem? (i := 99) (by decide +kernel)
theorem ln_X4_20 : Cond.methodLinkNest RX4 20 yX0_init RX9 ∈ lw_tbl := List.mem_of_getElem? (i := 123) (by decide +kernel)
theorem mf_X0_init : MF yX0_init cX0_init 1 none 0 := ⟨List.mem_of_getElem? (i := 125) (by decide +kernel), List.mem_of_getElem? (i := 36) (by decide +kernel), ⟨by decide +kernel, by decide +kernel⟩, by decide +kernel, by decide +kernel⟩
theorem mi_X0_init : Cond.instanceMethod yX0_init ∈ lw_tbl := List.mem_of_getElem? (i := 124) (by decide +kernel)
theorem lk_X0_3 : Cond.methodLink RX0 3 objectInit ∈ lw_tbl := List.mem_of_getElem? (i := 126) (by decide +kernel)
theorem kc_X0_31 : Cond.constant RX0 31 (-100009) ∈ lw_tbl := List.mem_of_getElem? (i := 127) (by decide +kernel)
theorem fl_X0_9 : Cond.fieldLink RX0 9 "RoastKeeper$Beans" "temperature" "I" ∈ lw_tbl := List.mem_of_getElem? (i := 128) (by decide +kernel)
theorem fl_X4_81 : Cond.fieldLink RX4 81 "RoastKeeper$Beans" "temperature" "I" ∈ lw_tbl := List.mem_of_getElem? (i := 129) (by decide +kernel)
theorem fl_X9_186 : Cond.fieldLink RX9 186 "RoastKeeper$Beans" "temperature" "I" ∈ lw_tbl := List.mem_of_getElem? (i := 130) (by decide +kernel)
theorem fl_X0_15 : Cond.fieldLink RX0 15 "RoastKeeper$Beans" "mass" "I" ∈ lw_tbl := List.mem_of_getElem? (i := 131) (by decide +kernel)
theorem fl_X4_133 : Cond.fieldLink RX4 133 "RoastKeeper$Beans" "mass" "I" ∈ lw_tbl := List.mem_of_getElem? (i := 132) (by decide +kernel)
theorem fl_X0_18 : Cond.fieldLink RX0 18 "RoastKeeper$Beans" "age" "I" ∈ lw_tbl := List.mem_of_getElem? (i := 133) (by decide +kernel)
theorem fl_X2_40 : Cond.fieldLink RX2 40 "RoastKeeper$Beans" "age" "I" ∈ lw_tbl := List.mem_of_getElem? (i := 134) (by decide +kernel)
theorem fl_X4_58 : Cond.fieldLink RX4 58 "RoastKeeper$Beans" "age" "I" ∈ lw_tbl := List.mem_of_getElem? (i := 135) (by decide +kernel)
theorem fl_X9_227 : Cond.fieldLink RX9 227 "RoastKeeper$Beans" "age" "I" ∈ lw_tbl := List.mem_of_getElem? (i := 136) (by decide +kernel)
theorem fl_X0_21 : Cond.fieldLink RX0 21 "RoastKeeper$Beans" "loss" "I" ∈ lw_tbl := List.mem_of_getElem? (i := 137) (by decide +kernel)
theorem fl_X2_51 : Cond.fieldLink RX2 51 "RoastKeeper$Beans" "loss" "I" ∈ lw_tbl := List.mem_of_getElem? (i := 138) (by decide +kernel)
theorem fl_X4_78 : Cond.fieldLink RX4 78 "RoastKeeper$Beans" "loss" "I" ∈ lw_tbl := List.mem_of_getElem? (i := 139) (by decide +kernel)
theorem fl_X9_181 : Cond.fieldLink RX9 181 "RoastKeeper$Beans" "loss" "I" ∈ lw_tbl := List.mem_of_getElem? (i := 140) (by decide +kernel)
theorem fl_X0_24 : Cond.fieldLink RX0 24 "RoastKeeper$Beans" "pops" "I" ∈ lw_tbl := List.mem_of_getElem? (i := 141) (by decide +kernel)
theorem fl_X0_27 : Cond.fieldLink RX0 27 "RoastKeeper$Beans" "recentPops" "[I" ∈ lw_tbl := List.mem_of_getElem? (i := 142) (by decide +kernel)
theorem fl_X0_32 : Cond.fieldLink RX0 32 "RoastKeeper$Beans" "crackAt" "I" ∈ lw_tbl := List.mem_of_getElem? (i := 143) (by decide +kernel)
theorem fl_X2_45 : Cond.fieldLink RX2 45 "RoastKeeper$Beans" "crackAt" "I" ∈ lw_tbl := List.mem_of_getElem? (i := 144) (by decide +kernel)
theorem fl_X0_35 : Cond.fieldLink RX0 35 "RoastKeeper$Beans" "endedAt" "I" ∈ lw_tbl := List.mem_of_getElem? (i := 145) (by decide +kernel)
theorem fl_X2_48 : Cond.fieldLink RX2 48 "RoastKeeper$Beans" "endedAt" "I" ∈ lw_tbl := List.mem_of_getElem? (i := 146) (by decide +kernel)
theorem fl_X0_38 : Cond.fieldLink RX0 38 "RoastKeeper$Beans" "hottest" "I" ∈ lw_tbl := List.mem_of_getElem? (i := 147) (by decide +kernel)
theorem fl_X2_54 : Cond.fieldLink RX2 54 "RoastKeeper$Beans" "hottest" "I" ∈ lw_tbl := List.mem_of_getElem? (i := 148) (by decide +kernel)
theorem fl_X4_12 : Cond.fieldLink RX4 12 "RoastKeeper$Roaster" "settings" "LRoastKeeper$Settings;" ∈ lw_tbl := List.mem_of_getElem? (i := 169) (by decide +kernel)
theorem fl_X9_21 : Cond.fieldLink RX9 21 "RoastKeeper$Roaster" "settings" "LRoastKeeper$Settings;" ∈ lw_tbl := List.mem_of_getElem? (i := 170) (by decide +kernel)
theorem fl_X4_21 : Cond.fieldLink RX4 21 "RoastKeeper$Roaster" "beans" "LRoastKeeper$Beans;" ∈ lw_tbl := List.mem_of_getElem? (i := 171) (by decide +kernel)
theorem fl_X9_165 : Cond.fieldLink RX9 165 "RoastKeeper$Roaster" "beans" "LRoastKeeper$Beans;" ∈ lw_tbl := List.mem_of_getElem? (i := 172) (by decide +kernel)
theorem fl_X4_25 : Cond.fieldLink RX4 25 "RoastKeeper$Roaster" "time" "I" ∈ lw_tbl := List.mem_of_getElem? (i := 173) (by decide +kernel)
theorem fl_X9_189 : Cond.fieldLink RX9 189 "RoastKeeper$Roaster" "time" "I" ∈ lw_tbl := List.mem_of_getElem? (i := 174) (by decide +kernel)
theorem fl_X4_29 : Cond.fieldLink RX4 29 "RoastKeeper$Roaster" "phase" "I" ∈ lw_tbl := List.mem_of_getElem? (i := 175) (by decide +kernel)
theorem fl_X9_156 : Cond.fieldLink RX9 156 "RoastKeeper$Roaster" "phase" "I" ∈ lw_tbl := List.mem_of_getElem? (i := 176) (by decide +kernel)
theorem fl_X4_32 : Cond.fieldLink RX4 32 "RoastKeeper$Roaster" "drum" "I" ∈ lw_tbl := List.mem_of_getElem? (i := 177) (by decide +kernel)
theorem fl_X9_162 : Cond.fieldLink RX9 162 "RoastKeeper$Roaster" "drum" "I" ∈ lw_tbl := List.mem_of_getElem? (i := 178) (by decide +kernel)
theorem fl_X4_35 : Cond.fieldLink RX4 35 "RoastKeeper$Roaster" "probe" "I" ∈ lw_tbl := List.mem_of_getElem? (i := 179) (by decide +kernel)
theorem fl_X9_196 : Cond.fieldLink RX9 196 "RoastKeeper$Roaster" "probe" "I" ∈ lw_tbl := List.mem_of_getElem? (i := 180) (by decide +kernel)
theorem fl_X4_38 : Cond.fieldLink RX4 38 "RoastKeeper$Roaster" "power" "I" ∈ lw_tbl := List.mem_of_getElem? (i := 181) (by decide +kernel)
theorem fl_X9_88 : Cond.fieldLink RX9 88 "RoastKeeper$Roaster" "power" "I" ∈ lw_tbl := List.mem_of_getElem? (i := 182) (by decide +kernel)
theorem fl_X4_41 : Cond.fieldLink RX4 41 "RoastKeeper$Roaster" "sum" "I" ∈ lw_tbl := List.mem_of_getElem? (i := 183) (by decide +kernel)
theorem fl_X9_203 : Cond.fieldLink RX9 203 "RoastKeeper$Roaster" "sum" "I" ∈ lw_tbl := List.mem_of_getElem? (i := 184) (by decide +kernel)
theorem lk_X7_20 : Cond.methodLink RX7 20 yX6_init ∈ lw_tbl := List.mem_of_getElem? (i := 204) (by decide +kernel)
theorem mf_X6_init : MF yX6_init cX6_init 2 none 1 := ⟨List.mem_of_getElem? (i := 206) (by decide +kernel), List.mem_of_getElem? (i := 37) (by decide +kernel), ⟨by decide +kernel, by decide +kernel⟩, by decide +kernel, by decide +kernel⟩
theorem mi_X6_init : Cond.instanceMethod yX6_init ∈ lw_tbl := List.mem_of_getElem? (i := 205) (by decide +kernel)
theorem lk_X6_1 : Cond.methodLink RX6 1 objectInit ∈ lw_tbl := List.mem_of_getElem? (i := 207) (by decide +kernel)
theorem lk_X6_13 : Cond.methodLink RX6 13 yJ9_max_7cf53 ∈ lw_tbl := List.mem_of_getElem? (i := 208) (by decide +kernel)
theorem ms_J9_max_7cf53 : Cond.static yJ9_max_7cf53 ∈ lw_tbl := List.mem_of_getElem? (i := 209) (by decide +kernel)
theorem mf_J9_max_7cf53 : MF yJ9_max_7cf53 cJ9_max_7cf53 2 (some .int) 2 := ⟨List.mem_of_getElem? (i := 210) (by decide +kernel), List.mem_of_getElem? (i := 38) (by decide +kernel), ⟨by decide +kernel, by decide +kernel⟩, by decide +kernel, by decide +kernel⟩
theorem fl_X6_19 : Cond.fieldLink RX6 19 "RoastKeeper$SortedRows" "keys" "[I" ∈ lw_tbl := List.mem_of_getElem? (i := 211) (by decide +kernel)
theorem fl_X6_23 : Cond.fieldLink RX6 23 "RoastKeeper$SortedRows" "values" "[I" ∈ lw_tbl := List.mem_of_getElem? (i := 212) (by decide +kernel)
theorem fl_X6_7 : Cond.fieldLink RX6 7 "RoastKeeper$SortedRows" "size" "I" ∈ lw_tbl := List.mem_of_getElem? (i := 213) (by decide +kernel)
theorem fl_X3_24 : Cond.fieldLink RX3 24 "RoastKeeper$SortedRows" "size" "I" ∈ lw_tbl := List.mem_of_getElem? (i := 214) (by decide +kernel)
theorem fl_X4_108 : Cond.fieldLink RX4 108 "RoastKeeper$SortedRows" "size" "I" ∈ lw_tbl := List.mem_of_getElem? (i := 215) (by decide +kernel)
theorem fl_X9_123 : Cond.fieldLink RX9 123 "RoastKeeper$SortedRows" "size" "I" ∈ lw_tbl := List.mem_of_getElem? (i := 216) (by decide +kernel)
theorem ln_X7_32 : Cond.methodLinkNest RX7 32 yX2_init RX9 ∈ lw_tbl := List.mem_of_getElem? (i := 226) (by decide +kernel)
theorem mf_X2_init : MF yX2_init cX2_init 1 none 0 := ⟨List.mem_of_getElem? (i := 228) (by decide +kernel), List.mem_of_getElem? (i := 39) (by decide +kernel), ⟨by decide +kernel, by decide +kernel⟩, by decide +kernel, by decide +kernel⟩
theorem mi_X2_init : Cond.instanceMethod yX2_init ∈ lw_tbl := List.mem_of_getElem? (i := 227) (by decide +kernel)
theorem lk_X2_3 : Cond.methodLink RX2 3 objectInit ∈ lw_tbl := List.mem_of_getElem? (i := 229) (by decide +kernel)
theorem fl_X2_9 : Cond.fieldLink RX2 9 "RoastKeeper$Log" "entries" "[I" ∈ lw_tbl := List.mem_of_getElem? (i := 230) (by decide +kernel)
theorem fl_X2_15 : Cond.fieldLink RX2 15 "RoastKeeper$Log" "size" "I" ∈ lw_tbl := List.mem_of_getElem? (i := 231) (by decide +kernel)
theorem fl_X9_206 : Cond.fieldLink RX9 206 "RoastKeeper$Log" "size" "I" ∈ lw_tbl := List.mem_of_getElem? (i := 232) (by decide +kernel)
theorem fl_X2_19 : Cond.fieldLink RX2 19 "RoastKeeper$Log" "dropped" "I" ∈ lw_tbl := List.mem_of_getElem? (i := 233) (by decide +kernel)
theorem fl_X7_12 : Cond.fieldLink RX7 12 "RoastKeeper$State" "roaster" "LRoastKeeper$Roaster;" ∈ lw_tbl := List.mem_of_getElem? (i := 241) (by decide +kernel)
theorem fl_X9_16 : Cond.fieldLink RX9 16 "RoastKeeper$State" "roaster" "LRoastKeeper$Roaster;" ∈ lw_tbl := List.mem_of_getElem? (i := 242) (by decide +kernel)
theorem fl_X7_23 : Cond.fieldLink RX7 23 "RoastKeeper$State" "profile" "LRoastKeeper$SortedRows;" ∈ lw_tbl := List.mem_of_getElem? (i := 243) (by decide +kernel)
theorem fl_X9_28 : Cond.fieldLink RX9 28 "RoastKeeper$State" "profile" "LRoastKeeper$SortedRows;" ∈ lw_tbl := List.mem_of_getElem? (i := 244) (by decide +kernel)
theorem fl_X7_27 : Cond.fieldLink RX7 27 "RoastKeeper$State" "losses" "LRoastKeeper$SortedRows;" ∈ lw_tbl := List.mem_of_getElem? (i := 245) (by decide +kernel)
theorem fl_X9_33 : Cond.fieldLink RX9 33 "RoastKeeper$State" "losses" "LRoastKeeper$SortedRows;" ∈ lw_tbl := List.mem_of_getElem? (i := 246) (by decide +kernel)
theorem fl_X7_33 : Cond.fieldLink RX7 33 "RoastKeeper$State" "log" "LRoastKeeper$Log;" ∈ lw_tbl := List.mem_of_getElem? (i := 247) (by decide +kernel)
theorem fl_X9_37 : Cond.fieldLink RX9 37 "RoastKeeper$State" "log" "LRoastKeeper$Log;" ∈ lw_tbl := List.mem_of_getElem? (i := 248) (by decide +kernel)
theorem lk_X9_44 : Cond.methodLink RX9 44 yX1_init ∈ lw_tbl := List.mem_of_getElem? (i := 260) (by decide +kernel)
theorem mf_X1_init : MF yX1_init cX1_init 2 none 0 := ⟨List.mem_of_getElem? (i := 262) (by decide +kernel), List.mem_of_getElem? (i := 40) (by decide +kernel), ⟨by decide +kernel, by decide +kernel⟩, by decide +kernel, by decide +kernel⟩
theorem mi_X1_init : Cond.instanceMethod yX1_init ∈ lw_tbl := List.mem_of_getElem? (i := 261) (by decide +kernel)
theorem lk_X1_3 : Cond.methodLink RX1 3 objectInit ∈ lw_tbl := List.mem_of_getElem? (i := 263) (by decide +kernel)
theorem ln_X1_24 : Cond.methodLinkNest RX1 24 yX7_init RX9 ∈ lw_tbl := List.mem_of_getElem? (i := 266) (by decide +kernel)
theorem fl_X1_11 : Cond.fieldLink RX1 11 "RoastKeeper$History" "states" "[LRoastKeeper$State;" ∈ lw_tbl := List.mem_of_getElem? (i := 267) (by decide +kernel)
theorem fl_X1_17 : Cond.fieldLink RX1 17 "RoastKeeper$History" "oldest" "I" ∈ lw_tbl := List.mem_of_getElem? (i := 268) (by decide +kernel)
theorem fl_X1_21 : Cond.fieldLink RX1 21 "RoastKeeper$History" "size" "I" ∈ lw_tbl := List.mem_of_getElem? (i := 269) (by decide +kernel)
theorem fl_X9_199 : Cond.fieldLink RX9 199 "RoastKeeper$History" "size" "I" ∈ lw_tbl := List.mem_of_getElem? (i := 270) (by decide +kernel)
theorem ln_X9_51 : Cond.methodLinkNest RX9 51 yX8_init RX9 ∈ lw_tbl := List.mem_of_getElem? (i := 280) (by decide +kernel)
theorem mf_X8_init : MF yX8_init cX8_init 1 none 0 := ⟨List.mem_of_getElem? (i := 282) (by decide +kernel), List.mem_of_getElem? (i := 41) (by decide +kernel), ⟨by decide +kernel, by decide +kernel⟩, by decide +kernel, by decide +kernel⟩
theorem mi_X8_init : Cond.instanceMethod yX8_init ∈ lw_tbl := List.mem_of_getElem? (i := 281) (by decide +kernel)
theorem lk_X8_3 : Cond.methodLink RX8 3 objectInit ∈ lw_tbl := List.mem_of_getElem? (i := 283) (by decide +kernel)
theorem fl_X8_9 : Cond.fieldLink RX8 9 "RoastKeeper$Text" "characters" "[I" ∈ lw_tbl := List.mem_of_getElem? (i := 284) (by decide +kernel)
theorem fl_X8_15 : Cond.fieldLink RX8 15 "RoastKeeper$Text" "length" "I" ∈ lw_tbl := List.mem_of_getElem? (i := 285) (by decide +kernel)
theorem fl_X3_33 : Cond.fieldLink RX3 33 "RoastKeeper$Text" "length" "I" ∈ lw_tbl := List.mem_of_getElem? (i := 286) (by decide +kernel)
theorem fl_X9_138 : Cond.fieldLink RX9 138 "RoastKeeper$Text" "length" "I" ∈ lw_tbl := List.mem_of_getElem? (i := 287) (by decide +kernel)
theorem ln_X9_58 : Cond.methodLinkNest RX9 58 yX3_init RX9 ∈ lw_tbl := List.mem_of_getElem? (i := 295) (by decide +kernel)
theorem mf_X3_init : MF yX3_init cX3_init 1 none 0 := ⟨List.mem_of_getElem? (i := 297) (by decide +kernel), List.mem_of_getElem? (i := 42) (by decide +kernel), ⟨by decide +kernel, by decide +kernel⟩, by decide +kernel, by decide +kernel⟩
theorem mi_X3_init : Cond.instanceMethod yX3_init ∈ lw_tbl := List.mem_of_getElem? (i := 296) (by decide +kernel)
theorem lk_X3_3 : Cond.methodLink RX3 3 objectInit ∈ lw_tbl := List.mem_of_getElem? (i := 298) (by decide +kernel)
theorem lk_X3_11 : Cond.methodLink RX3 11 yX6_init ∈ lw_tbl := List.mem_of_getElem? (i := 300) (by decide +kernel)
theorem fl_X3_14 : Cond.fieldLink RX3 14 "RoastKeeper$ProfileReader" "points" "LRoastKeeper$SortedRows;" ∈ lw_tbl := List.mem_of_getElem? (i := 301) (by decide +kernel)
theorem fl_X9_149 : Cond.fieldLink RX9 149 "RoastKeeper$ProfileReader" "points" "LRoastKeeper$SortedRows;" ∈ lw_tbl := List.mem_of_getElem? (i := 302) (by decide +kernel)
theorem fl_X3_20 : Cond.fieldLink RX3 20 "RoastKeeper$ProfileReader" "tick" "I" ∈ lw_tbl := List.mem_of_getElem? (i := 303) (by decide +kernel)
theorem ln_X9_63 : Cond.methodLinkNest RX9 63 yX4_init RX9 ∈ lw_tbl := List.mem_of_getElem? (i := 310) (by decide +kernel)
theorem lk_X9_67 : Cond.methodLink RX9 67 yX6_set ∈ lw_tbl := List.mem_of_getElem? (i := 311) (by decide +kernel)
theorem mf_X6_set : MF yX6_set cX6_set 4 none 2 := ⟨List.mem_of_getElem? (i := 314) (by decide +kernel), List.mem_of_getElem? (i := 37) (by decide +kernel), ⟨by decide +kernel, by decide +kernel⟩, by decide +kernel, by decide +kernel⟩
theorem mv_X6_set : MV yX6_set := ⟨List.mem_of_getElem? (i := 312) (by decide +kernel), List.mem_of_getElem? (i := 313) (by decide +kernel)⟩
theorem lk_X6_39 : Cond.methodLink RX6 39 yX6_indexBelow ∈ lw_tbl := List.mem_of_getElem? (i := 315) (by decide +kernel)
theorem mf_X6_indexBelow : MF yX6_indexBelow cX6_indexBelow 4 (some .int) 1 := ⟨List.mem_of_getElem? (i := 318) (by decide +kernel), List.mem_of_getElem? (i := 37) (by decide +kernel), ⟨by decide +kernel, by decide +kernel⟩, by decide +kernel, by decide +kernel⟩
theorem mv_X6_indexBelow : MV yX6_indexBelow := ⟨List.mem_of_getElem? (i := 316) (by decide +kernel), List.mem_of_getElem? (i := 317) (by decide +kernel)⟩
theorem ln_X6_35 : Cond.methodLinkNest RX6 35 yX9_at RX9 ∈ lw_tbl := List.mem_of_getElem? (i := 319) (by decide +kernel)
theorem ms_X9_at : Cond.static yX9_at ∈ lw_tbl := List.mem_of_getElem? (i := 320) (by decide +kernel)
theorem mf_X9_at : MF yX9_at cX9_at 2 (some .int) 2 := ⟨List.mem_of_getElem? (i := 321) (by decide +kernel), List.mem_of_getElem? (i := 32) (by decide +kernel), ⟨by decide +kernel, by decide +kernel⟩, by decide +kernel, by decide +kernel⟩
theorem ln_X6_47 : Cond.methodLinkNest RX6 47 yX9_put RX9 ∈ lw_tbl := List.mem_of_getElem? (i := 322) (by decide +kernel)
theorem ms_X9_put : Cond.static yX9_put ∈ lw_tbl := List.mem_of_getElem? (i := 323) (by decide +kernel)
theorem mf_X9_put : MF yX9_put cX9_put 3 none 3 := ⟨List.mem_of_getElem? (i := 324) (by decide +kernel), List.mem_of_getElem? (i := 32) (by decide +kernel), ⟨by decide +kernel, by decide +kernel⟩, by decide +kernel, by decide +kernel⟩
theorem lk_X6_51 : Cond.methodLink RX6 51 yX6_insert ∈ lw_tbl := List.mem_of_getElem? (i := 325) (by decide +kernel)
theorem mf_X6_insert : MF yX6_insert cX6_insert 5 none 3 := ⟨List.mem_of_getElem? (i := 328) (by decide +kernel), List.mem_of_getElem? (i := 37) (by decide +kernel), ⟨by decide +kernel, by decide +kernel⟩, by decide +kernel, by decide +kernel⟩
theorem mv_X6_insert : MV yX6_insert := ⟨List.mem_of_getElem? (i := 327) (by decide +kernel), List.mem_of_getElem? (i := 0) (by decide +kernel)⟩
theorem fl_X9_10 : Cond.fieldLink RX9 10 "RoastKeeper" "now" "LRoastKeeper$State;" ∈ lw_tbl := List.mem_of_getElem? (i := 329) (by decide +kernel)
theorem fl_X9_20 : Cond.fieldLink RX9 20 "RoastKeeper" "roaster" "LRoastKeeper$Roaster;" ∈ lw_tbl := List.mem_of_getElem? (i := 330) (by decide +kernel)
theorem fl_X9_27 : Cond.fieldLink RX9 27 "RoastKeeper" "settings" "LRoastKeeper$Settings;" ∈ lw_tbl := List.mem_of_getElem? (i := 331) (by decide +kernel)
theorem fl_X9_32 : Cond.fieldLink RX9 32 "RoastKeeper" "profile" "LRoastKeeper$SortedRows;" ∈ lw_tbl := List.mem_of_getElem? (i := 332) (by decide +kernel)
theorem fl_X9_36 : Cond.fieldLink RX9 36 "RoastKeeper" "losses" "LRoastKeeper$SortedRows;" ∈ lw_tbl := List.mem_of_getElem? (i := 333) (by decide +kernel)
theorem fl_X9_41 : Cond.fieldLink RX9 41 "RoastKeeper" "log" "LRoastKeeper$Log;" ∈ lw_tbl := List.mem_of_getElem? (i := 334) (by decide +kernel)
theorem fl_X9_45 : Cond.fieldLink RX9 45 "RoastKeeper" "history" "LRoastKeeper$History;" ∈ lw_tbl := List.mem_of_getElem? (i := 335) (by decide +kernel)
theorem fl_X9_52 : Cond.fieldLink RX9 52 "RoastKeeper" "text" "LRoastKeeper$Text;" ∈ lw_tbl := List.mem_of_getElem? (i := 336) (by decide +kernel)
theorem fl_X9_59 : Cond.fieldLink RX9 59 "RoastKeeper" "reader" "LRoastKeeper$ProfileReader;" ∈ lw_tbl := List.mem_of_getElem? (i := 337) (by decide +kernel)
theorem fl_X9_64 : Cond.fieldLink RX9 64 "RoastKeeper" "trial" "LRoastKeeper$Roaster;" ∈ lw_tbl := List.mem_of_getElem? (i := 338) (by decide +kernel)
theorem lk_L_13 : Cond.methodLink RL 13 yX9_setAmbient ∈ lw_tbl := List.mem_of_getElem? (i := 360) (by decide +kernel)
theorem mf_X9_setAmbient : MF yX9_setAmbient cX9_setAmbient 3 (some .int) 1 := ⟨List.mem_of_getElem? (i := 363) (by decide +kernel), List.mem_of_getElem? (i := 32) (by decide +kernel), ⟨by decide +kernel, by decide +kernel⟩, by decide +kernel, by decide +kernel⟩
theorem mv_X9_setAmbient : MV yX9_setAmbient := ⟨List.mem_of_getElem? (i := 361) (by decide +kernel), List.mem_of_getElem? (i := 362) (by decide +kernel)⟩
theorem lk_X9_73 : Cond.methodLink RX9 73 yX9_inRange ∈ lw_tbl := List.mem_of_getElem? (i := 364) (by decide +kernel)
theorem ms_X9_inRange : Cond.static yX9_inRange ∈ lw_tbl := List.mem_of_getElem? (i := 365) (by decide +kernel)
theorem mf_X9_inRange : MF yX9_inRange cX9_inRange 3 (some .boolean) 3 := ⟨List.mem_of_getElem? (i := 366) (by decide +kernel), List.mem_of_getElem? (i := 32) (by decide +kernel), ⟨by decide +kernel, by decide +kernel⟩, by decide +kernel, by decide +kernel⟩
theorem kc_X9_77 : Cond.constant RX9 77 (-100001) ∈ lw_tbl := List.mem_of_getElem? (i := 367) (by decide +kernel)
theorem lk_X9_78 : Cond.methodLink RX9 78 yX1_remember ∈ lw_tbl := List.mem_of_getElem? (i := 368) (by decide +kernel)
theorem mf_X1_remember : MF yX1_remember cX1_remember 3 none 1 := ⟨List.mem_of_getElem? (i := 371) (by decide +kernel), List.mem_of_getElem? (i := 40) (by decide +kernel), ⟨by decide +kernel, by decide +kernel⟩, by decide +kernel, by decide +kernel⟩
theorem mv_X1_remember : MV yX1_remember := ⟨List.mem_of_getElem? (i := 369) (by decide +kernel), List.mem_of_getElem? (i := 370) (by decide +kernel)⟩
theorem lk_X1_25 : Cond.methodLink RX1 25 yX1_slot ∈ lw_tbl := List.mem_of_getElem? (i := 372) (by decide +kernel)
theorem mf_X1_slot : MF yX1_slot cX1_slot 3 (some (.object "RoastKeeper$State")) 1 := ⟨List.mem_of_getElem? (i := 375) (by decide +kernel), List.mem_of_getElem? (i := 40) (by decide +kernel), ⟨by decide +kernel, by decide +kernel⟩, by decide +kernel, by decide +kernel⟩
theorem mv_X1_slot : MV yX1_slot := ⟨List.mem_of_getElem? (i := 374) (by decide +kernel), List.mem_of_getElem? (i := 1) (by decide +kernel)⟩
theorem lk_X1_33 : Cond.methodLink RX1 33 yJ9_floorMod_7cf53 ∈ lw_tbl := List.mem_of_getElem? (i := 376) (by decide +kernel)
theorem ms_J9_floorMod_7cf53 : Cond.static yJ9_floorMod_7cf53 ∈ lw_tbl := List.mem_of_getElem? (i := 377) (by decide +kernel)
theorem mf_J9_floorMod_7cf53 : MF yJ9_floorMod_7cf53 cJ9_floorMod_7cf53 3 (some .int) 2 := ⟨List.mem_of_getElem? (i := 378) (by decide +kernel), List.mem_of_getElem? (i := 38) (by decide +kernel), ⟨by decide +kernel, by decide +kernel⟩, by decide +kernel, by decide +kernel⟩
theorem lk_X1_29 : Cond.methodLink RX1 29 yX7_copyFrom ∈ lw_tbl := List.mem_of_getElem? (i := 379) (by decide +kernel)
theorem mf_X7_copyFrom : MF yX7_copyFrom cX7_copyFrom 2 none 1 := ⟨List.mem_of_getElem? (i := 382) (by decide +kernel), List.mem_of_getElem? (i := 33) (by decide +kernel), ⟨by decide +kernel, by decide +kernel⟩, by decide +kernel, by decide +kernel⟩
theorem mv_X7_copyFrom : MV yX7_copyFrom := ⟨List.mem_of_getElem? (i := 380) (by decide +kernel), List.mem_of_getElem? (i := 381) (by decide +kernel)⟩
theorem lk_X7_37 : Cond.methodLink RX7 37 yX4_copyFrom ∈ lw_tbl := List.mem_of_getElem? (i := 383) (by decide +kernel)
theorem mf_X4_copyFrom : MF yX4_copyFrom cX4_copyFrom 2 none 1 := ⟨List.mem_of_getElem? (i := 386) (by decide +kernel), List.mem_of_getElem? (i := 34) (by decide +kernel), ⟨by decide +kernel, by decide +kernel⟩, by decide +kernel, by decide +kernel⟩
theorem mv_X4_copyFrom : MV yX4_copyFrom := ⟨List.mem_of_getElem? (i := 384) (by decide +kernel), List.mem_of_getElem? (i := 385) (by decide +kernel)⟩
theorem lk_X4_44 : Cond.methodLink RX4 44 yX5_copyFrom ∈ lw_tbl := List.mem_of_getElem? (i := 387) (by decide +kernel)
theorem mf_X5_copyFrom : MF yX5_copyFrom cX5_copyFrom 2 none 1 := ⟨List.mem_of_getElem? (i := 390) (by decide +kernel), List.mem_of_getElem? (i := 35) (by decide +kernel), ⟨by decide +kernel, by decide +kernel⟩, by decide +kernel, by decide +kernel⟩
theorem mv_X5_copyFrom : MV yX5_copyFrom := ⟨List.mem_of_getElem? (i := 388) (by decide +kernel), List.mem_of_getElem? (i := 389) (by decide +kernel)⟩
theorem lk_X4_48 : Cond.methodLink RX4 48 yX0_copyFrom ∈ lw_tbl := List.mem_of_getElem? (i := 391) (by decide +kernel)
theorem mf_X0_copyFrom : MF yX0_copyFrom cX0_copyFrom 2 none 1 := ⟨List.mem_of_getElem? (i := 394) (by decide +kernel), List.mem_of_getElem? (i := 36) (by decide +kernel), ⟨by decide +kernel, by decide +kernel⟩, by decide +kernel, by decide +kernel⟩
theorem mv_X0_copyFrom : MV yX0_copyFrom := ⟨List.mem_of_getElem? (i := 392) (by decide +kernel), List.mem_of_getElem? (i := 393) (by decide +kernel)⟩
theorem ln_X0_41 : Cond.methodLinkNest RX0 41 yX9_copyRow RX9 ∈ lw_tbl := List.mem_of_getElem? (i := 395) (by decide +kernel)
theorem ms_X9_copyRow : Cond.static yX9_copyRow ∈ lw_tbl := List.mem_of_getElem? (i := 396) (by decide +kernel)
theorem mf_X9_copyRow : MF yX9_copyRow cX9_copyRow 2 none 2 := ⟨List.mem_of_getElem? (i := 397) (by decide +kernel), List.mem_of_getElem? (i := 32) (by decide +kernel), ⟨by decide +kernel, by decide +kernel⟩, by decide +kernel, by decide +kernel⟩
theorem lk_X9_175 : Cond.methodLink RX9 175 yJ9_min_7cf53 ∈ lw_tbl := List.mem_of_getElem? (i := 398) (by decide +kernel)
theorem ms_J9_min_7cf53 : Cond.static yJ9_min_7cf53 ∈ lw_tbl := List.mem_of_getElem? (i := 399) (by decide +kernel)
theorem mf_J9_min_7cf53 : MF yJ9_min_7cf53 cJ9_min_7cf53 2 (some .int) 2 := ⟨List.mem_of_getElem? (i := 400) (by decide +kernel), List.mem_of_getElem? (i := 38) (by decide +kernel), ⟨by decide +kernel, by decide +kernel⟩, by decide +kernel, by decide +kernel⟩
theorem lk_X9_240 : Cond.methodLink RX9 240 arraycopyName ∈ lw_tbl := List.mem_of_getElem? (i := 401) (by decide +kernel)
theorem lk_X7_41 : Cond.methodLink RX7 41 yX6_copyFrom ∈ lw_tbl := List.mem_of_getElem? (i := 404) (by decide +kernel)
theorem mf_X6_copyFrom : MF yX6_copyFrom cX6_copyFrom 2 none 1 := ⟨List.mem_of_getElem? (i := 407) (by decide +kernel), List.mem_of_getElem? (i := 37) (by decide +kernel), ⟨by decide +kernel, by decide +kernel⟩, by decide +kernel, by decide +kernel⟩
theorem mv_X6_copyFrom : MV yX6_copyFrom := ⟨List.mem_of_getElem? (i := 405) (by decide +kernel), List.mem_of_getElem? (i := 406) (by decide +kernel)⟩
theorem ln_X6_26 : Cond.methodLinkNest RX6 26 yX9_copyRow RX9 ∈ lw_tbl := List.mem_of_getElem? (i := 408) (by decide +kernel)
theorem lk_X6_32 : Cond.methodLink RX6 32 yJ9_min_7cf53 ∈ lw_tbl := List.mem_of_getElem? (i := 409) (by decide +kernel)
theorem lk_X7_44 : Cond.methodLink RX7 44 yX2_copyFrom ∈ lw_tbl := List.mem_of_getElem? (i := 410) (by decide +kernel)
theorem mf_X2_copyFrom : MF yX2_copyFrom cX2_copyFrom 2 none 1 := ⟨List.mem_of_getElem? (i := 413) (by decide +kernel), List.mem_of_getElem? (i := 39) (by decide +kernel), ⟨by decide +kernel, by decide +kernel⟩, by decide +kernel, by decide +kernel⟩
theorem mv_X2_copyFrom : MV yX2_copyFrom := ⟨List.mem_of_getElem? (i := 411) (by decide +kernel), List.mem_of_getElem? (i := 412) (by decide +kernel)⟩
theorem ln_X2_22 : Cond.methodLinkNest RX2 22 yX9_copyRow RX9 ∈ lw_tbl := List.mem_of_getElem? (i := 414) (by decide +kernel)
theorem lk_L_18 : Cond.methodLink RL 18 yX9_setPower ∈ lw_tbl := List.mem_of_getElem? (i := 415) (by decide +kernel)
theorem mf_X9_setPower : MF yX9_setPower cX9_setPower 3 (some .int) 1 := ⟨List.mem_of_getElem? (i := 418) (by decide +kernel), List.mem_of_getElem? (i := 32) (by decide +kernel), ⟨by decide +kernel, by decide +kernel⟩, by decide +kernel, by decide +kernel⟩
theorem mv_X9_setPower : MV yX9_setPower := ⟨List.mem_of_getElem? (i := 416) (by decide +kernel), List.mem_of_getElem? (i := 417) (by decide +kernel)⟩
theorem lk_L_22 : Cond.methodLink RL 22 yX9_setController ∈ lw_tbl := List.mem_of_getElem? (i := 419) (by decide +kernel)
theorem mf_X9_setController : MF yX9_setController cX9_setController 6 (some .int) 4 := ⟨List.mem_of_getElem? (i := 422) (by decide +kernel), List.mem_of_getElem? (i := 32) (by decide +kernel), ⟨by decide +kernel, by decide +kernel⟩, by decide +kernel, by decide +kernel⟩
theorem mv_X9_setController : MV yX9_setController := ⟨List.mem_of_getElem? (i := 420) (by decide +kernel), List.mem_of_getElem? (i := 421) (by decide +kernel)⟩
theorem lk_L_27 : Cond.methodLink RL 27 yX9_setProbe ∈ lw_tbl := List.mem_of_getElem? (i := 423) (by decide +kernel)
theorem mf_X9_setProbe : MF yX9_setProbe cX9_setProbe 4 (some .int) 2 := ⟨List.mem_of_getElem? (i := 426) (by decide +kernel), List.mem_of_getElem? (i := 32) (by decide +kernel), ⟨by decide +kernel, by decide +kernel⟩, by decide +kernel, by decide +kernel⟩
theorem mv_X9_setProbe : MV yX9_setProbe := ⟨List.mem_of_getElem? (i := 424) (by decide +kernel), List.mem_of_getElem? (i := 425) (by decide +kernel)⟩
theorem lk_L_32 : Cond.methodLink RL 32 yX9_setCrack ∈ lw_tbl := List.mem_of_getElem? (i := 427) (by decide +kernel)
theorem mf_X9_setCrack : MF yX9_setCrack cX9_setCrack 4 (some .int) 2 := ⟨List.mem_of_getElem? (i := 430) (by decide +kernel), List.mem_of_getElem? (i := 32) (by decide +kernel), ⟨by decide +kernel, by decide +kernel⟩, by decide +kernel, by decide +kernel⟩
theorem mv_X9_setCrack : MV yX9_setCrack := ⟨List.mem_of_getElem? (i := 428) (by decide +kernel), List.mem_of_getElem? (i := 429) (by decide +kernel)⟩
theorem lk_L_36 : Cond.methodLink RL 36 yX9_setFan ∈ lw_tbl := List.mem_of_getElem? (i := 431) (by decide +kernel)
theorem mf_X9_setFan : MF yX9_setFan cX9_setFan 3 (some .int) 1 := ⟨List.mem_of_getElem? (i := 434) (by decide +kernel), List.mem_of_getElem? (i := 32) (by decide +kernel), ⟨by decide +kernel, by decide +kernel⟩, by decide +kernel, by decide +kernel⟩
theorem mv_X9_setFan : MV yX9_setFan := ⟨List.mem_of_getElem? (i := 432) (by decide +kernel), List.mem_of_getElem? (i := 433) (by decide +kernel)⟩
theorem lk_L_40 : Cond.methodLink RL 40 yX9_setPoint ∈ lw_tbl := List.mem_of_getElem? (i := 435) (by decide +kernel)
theorem mf_X9_setPoint : MF yX9_setPoint cX9_setPoint 3 (some .int) 2 := ⟨List.mem_of_getElem? (i := 438) (by decide +kernel), List.mem_of_getElem? (i := 32) (by decide +kernel), ⟨by decide +kernel, by decide +kernel⟩, by decide +kernel, by decide +kernel⟩
theorem mv_X9_setPoint : MV yX9_setPoint := ⟨List.mem_of_getElem? (i := 436) (by decide +kernel), List.mem_of_getElem? (i := 437) (by decide +kernel)⟩
theorem lk_X9_118 : Cond.methodLink RX9 118 yX6_hasRoomFor ∈ lw_tbl := List.mem_of_getElem? (i := 439) (by decide +kernel)
theorem mf_X6_hasRoomFor : MF yX6_hasRoomFor cX6_hasRoomFor 2 (some .boolean) 1 := ⟨List.mem_of_getElem? (i := 442) (by decide +kernel), List.mem_of_getElem? (i := 37) (by decide +kernel), ⟨by decide +kernel, by decide +kernel⟩, by decide +kernel, by decide +kernel⟩
theorem mv_X6_hasRoomFor : MV yX6_hasRoomFor := ⟨List.mem_of_getElem? (i := 440) (by decide +kernel), List.mem_of_getElem? (i := 441) (by decide +kernel)⟩
theorem lk_X6_43 : Cond.methodLink RX6 43 yX6_has ∈ lw_tbl := List.mem_of_getElem? (i := 443) (by decide +kernel)
theorem mf_X6_has : MF yX6_has cX6_has 3 (some .boolean) 1 := ⟨List.mem_of_getElem? (i := 446) (by decide +kernel), List.mem_of_getElem? (i := 37) (by decide +kernel), ⟨by decide +kernel, by decide +kernel⟩, by decide +kernel, by decide +kernel⟩
theorem mv_X6_has : MV yX6_has := ⟨List.mem_of_getElem? (i := 444) (by decide +kernel), List.mem_of_getElem? (i := 445) (by decide +kernel)⟩
theorem kc_X9_122 : Cond.constant RX9 122 (-100003) ∈ lw_tbl := List.mem_of_getElem? (i := 447) (by decide +kernel)
theorem lk_L_44 : Cond.methodLink RL 44 yX9_removePoint ∈ lw_tbl := List.mem_of_getElem? (i := 448) (by decide +kernel)
theorem mf_X9_removePoint : MF yX9_removePoint cX9_removePoint 3 (some .int) 1 := ⟨List.mem_of_getElem? (i := 451) (by decide +kernel), List.mem_of_getElem? (i := 32) (by decide +kernel), ⟨by decide +kernel, by decide +kernel⟩, by decide +kernel, by decide +kernel⟩
theorem mv_X9_removePoint : MV yX9_removePoint := ⟨List.mem_of_getElem? (i := 449) (by decide +kernel), List.mem_of_getElem? (i := 450) (by decide +kernel)⟩
theorem lk_X9_126 : Cond.methodLink RX9 126 yX6_has ∈ lw_tbl := List.mem_of_getElem? (i := 452) (by decide +kernel)
theorem kc_X9_129 : Cond.constant RX9 129 (-100002) ∈ lw_tbl := List.mem_of_getElem? (i := 453) (by decide +kernel)
theorem lk_X9_130 : Cond.methodLink RX9 130 yX6_valueBelow ∈ lw_tbl := List.mem_of_getElem? (i := 454) (by decide +kernel)
theorem mf_X6_valueBelow : MF yX6_valueBelow cX6_valueBelow 3 (some .int) 1 := ⟨List.mem_of_getElem? (i := 457) (by decide +kernel), List.mem_of_getElem? (i := 37) (by decide +kernel), ⟨by decide +kernel, by decide +kernel⟩, by decide +kernel, by decide +kernel⟩
theorem mv_X6_valueBelow : MV yX6_valueBelow := ⟨List.mem_of_getElem? (i := 455) (by decide +kernel), List.mem_of_getElem? (i := 456) (by decide +kernel)⟩
theorem lk_X9_134 : Cond.methodLink RX9 134 yX6_remove ∈ lw_tbl := List.mem_of_getElem? (i := 458) (by decide +kernel)
theorem mf_X6_remove : MF yX6_remove cX6_remove 3 none 1 := ⟨List.mem_of_getElem? (i := 461) (by decide +kernel), List.mem_of_getElem? (i := 37) (by decide +kernel), ⟨by decide +kernel, by decide +kernel⟩, by decide +kernel, by decide +kernel⟩
theorem mv_X6_remove : MV yX6_remove := ⟨List.mem_of_getElem? (i := 459) (by decide +kernel), List.mem_of_getElem? (i := 460) (by decide +kernel)⟩
theorem lk_L_48 : Cond.methodLink RL 48 yX9_setRow ∈ lw_tbl := List.mem_of_getElem? (i := 462) (by decide +kernel)
theorem mf_X9_setRow : MF yX9_setRow cX9_setRow 4 (some .int) 2 := ⟨List.mem_of_getElem? (i := 465) (by decide +kernel), List.mem_of_getElem? (i := 32) (by decide +kernel), ⟨by decide +kernel, by decide +kernel⟩, by decide +kernel, by decide +kernel⟩
theorem mv_X9_setRow : MV yX9_setRow := ⟨List.mem_of_getElem? (i := 463) (by decide +kernel), List.mem_of_getElem? (i := 464) (by decide +kernel)⟩
theorem lk_L_52 : Cond.methodLink RL 52 yX9_append ∈ lw_tbl := List.mem_of_getElem? (i := 466) (by decide +kernel)
theorem mf_X9_append : MF yX9_append cX9_append 2 (some .int) 1 := ⟨List.mem_of_getElem? (i := 469) (by decide +kernel), List.mem_of_getElem? (i := 32) (by decide +kernel), ⟨by decide +kernel, by decide +kernel⟩, by decide +kernel, by decide +kernel⟩
theorem mv_X9_append : MV yX9_append := ⟨List.mem_of_getElem? (i := 467) (by decide +kernel), List.mem_of_getElem? (i := 468) (by decide +kernel)⟩
theorem lk_X9_141 : Cond.methodLink RX9 141 yX8_add ∈ lw_tbl := List.mem_of_getElem? (i := 470) (by decide +kernel)
theorem mf_X8_add : MF yX8_add cX8_add 2 none 1 := ⟨List.mem_of_getElem? (i := 473) (by decide +kernel), List.mem_of_getElem? (i := 41) (by decide +kernel), ⟨by decide +kernel, by decide +kernel⟩, by decide +kernel, by decide +kernel⟩
theorem mv_X8_add : MV yX8_add := ⟨List.mem_of_getElem? (i := 471) (by decide +kernel), List.mem_of_getElem? (i := 472) (by decide +kernel)⟩
theorem ln_X8_19 : Cond.methodLinkNest RX8 19 yX9_put RX9 ∈ lw_tbl := List.mem_of_getElem? (i := 474) (by decide +kernel)
theorem lk_L_56 : Cond.methodLink RL 56 yX9_clearText ∈ lw_tbl := List.mem_of_getElem? (i := 475) (by decide +kernel)
theorem mf_X9_clearText : MF yX9_clearText cX9_clearText 2 (some .int) 0 := ⟨List.mem_of_getElem? (i := 478) (by decide +kernel), List.mem_of_getElem? (i := 32) (by decide +kernel), ⟨by decide +kernel, by decide +kernel⟩, by decide +kernel, by decide +kernel⟩
theorem mv_X9_clearText : MV yX9_clearText := ⟨List.mem_of_getElem? (i := 476) (by decide +kernel), List.mem_of_getElem? (i := 477) (by decide +kernel)⟩
theorem lk_L_61 : Cond.methodLink RL 61 yX9_load ∈ lw_tbl := List.mem_of_getElem? (i := 479) (by decide +kernel)
theorem mf_X9_load : MF yX9_load cX9_load 2 (some .int) 0 := ⟨List.mem_of_getElem? (i := 482) (by decide +kernel), List.mem_of_getElem? (i := 32) (by decide +kernel), ⟨by decide +kernel, by decide +kernel⟩, by decide +kernel, by decide +kernel⟩
theorem mv_X9_load : MV yX9_load := ⟨List.mem_of_getElem? (i := 480) (by decide +kernel), List.mem_of_getElem? (i := 481) (by decide +kernel)⟩
theorem lk_X9_144 : Cond.methodLink RX9 144 yX3_errorPosition ∈ lw_tbl := List.mem_of_getElem? (i := 483) (by decide +kernel)
theorem mf_X3_errorPosition : MF yX3_errorPosition cX3_errorPosition 6 (some .int) 1 := ⟨List.mem_of_getElem? (i := 486) (by decide +kernel), List.mem_of_getElem? (i := 42) (by decide +kernel), ⟨by decide +kernel, by decide +kernel⟩, by decide +kernel, by decide +kernel⟩
theorem mv_X3_errorPosition : MV yX3_errorPosition := ⟨List.mem_of_getElem? (i := 484) (by decide +kernel), List.mem_of_getElem? (i := 485) (by decide +kernel)⟩
theorem lk_X3_27 : Cond.methodLink RX3 27 yX8_afterSpaces ∈ lw_tbl := List.mem_of_getElem? (i := 487) (by decide +kernel)
theorem mf_X8_afterSpaces : MF yX8_afterSpaces cX8_afterSpaces 4 (some .int) 1 := ⟨List.mem_of_getElem? (i := 490) (by decide +kernel), List.mem_of_getElem? (i := 41) (by decide +kernel), ⟨by decide +kernel, by decide +kernel⟩, by decide +kernel, by decide +kernel⟩
theorem mv_X8_afterSpaces : MV yX8_afterSpaces := ⟨List.mem_of_getElem? (i := 488) (by decide +kernel), List.mem_of_getElem? (i := 489) (by decide +kernel)⟩
theorem lk_X8_27 : Cond.methodLink RX8 27 yX8_character ∈ lw_tbl := List.mem_of_getElem? (i := 491) (by decide +kernel)
theorem mf_X8_character : MF yX8_character cX8_character 2 (some .int) 1 := ⟨List.mem_of_getElem? (i := 494) (by decide +kernel), List.mem_of_getElem? (i := 41) (by decide +kernel), ⟨by decide +kernel, by decide +kernel⟩, by decide +kernel, by decide +kernel⟩
theorem mv_X8_character : MV yX8_character := ⟨List.mem_of_getElem? (i := 492) (by decide +kernel), List.mem_of_getElem? (i := 493) (by decide +kernel)⟩
theorem ln_X8_23 : Cond.methodLinkNest RX8 23 yX9_at RX9 ∈ lw_tbl := List.mem_of_getElem? (i := 495) (by decide +kernel)
theorem lk_X3_36 : Cond.methodLink RX3 36 yX8_afterToken ∈ lw_tbl := List.mem_of_getElem? (i := 496) (by decide +kernel)
theorem mf_X8_afterToken : MF yX8_afterToken cX8_afterToken 4 (some .int) 1 := ⟨List.mem_of_getElem? (i := 499) (by decide +kernel), List.mem_of_getElem? (i := 41) (by decide +kernel), ⟨by decide +kernel, by decide +kernel⟩, by decide +kernel, by decide +kernel⟩
theorem mv_X8_afterToken : MV yX8_afterToken := ⟨List.mem_of_getElem? (i := 497) (by decide +kernel), List.mem_of_getElem? (i := 498) (by decide +kernel)⟩
theorem lk_X8_35 : Cond.methodLink RX8 35 yX8_isDigit ∈ lw_tbl := List.mem_of_getElem? (i := 500) (by decide +kernel)
theorem mf_X8_isDigit : MF yX8_isDigit cX8_isDigit 2 (some .boolean) 1 := ⟨List.mem_of_getElem? (i := 503) (by decide +kernel), List.mem_of_getElem? (i := 41) (by decide +kernel), ⟨by decide +kernel, by decide +kernel⟩, by decide +kernel, by decide +kernel⟩
theorem mv_X8_isDigit : MV yX8_isDigit := ⟨List.mem_of_getElem? (i := 501) (by decide +kernel), List.mem_of_getElem? (i := 502) (by decide +kernel)⟩
theorem ln_X8_31 : Cond.methodLinkNest RX8 31 yX9_inRange RX9 ∈ lw_tbl := List.mem_of_getElem? (i := 504) (by decide +kernel)
theorem lk_X3_39 : Cond.methodLink RX3 39 yX3_takes ∈ lw_tbl := List.mem_of_getElem? (i := 505) (by decide +kernel)
theorem mf_X3_takes : MF yX3_takes cX3_takes 5 (some .boolean) 4 := ⟨List.mem_of_getElem? (i := 508) (by decide +kernel), List.mem_of_getElem? (i := 42) (by decide +kernel), ⟨by decide +kernel, by decide +kernel⟩, by decide +kernel, by decide +kernel⟩
theorem mv_X3_takes : MV yX3_takes := ⟨List.mem_of_getElem? (i := 507) (by decide +kernel), List.mem_of_getElem? (i := 2) (by decide +kernel)⟩
theorem lk_X3_43 : Cond.methodLink RX3 43 yX8_numberIn ∈ lw_tbl := List.mem_of_getElem? (i := 509) (by decide +kernel)
theorem mf_X8_numberIn : MF yX8_numberIn cX8_numberIn 5 (some .int) 2 := ⟨List.mem_of_getElem? (i := 512) (by decide +kernel), List.mem_of_getElem? (i := 41) (by decide +kernel), ⟨by decide +kernel, by decide +kernel⟩, by decide +kernel, by decide +kernel⟩
theorem mv_X8_numberIn : MV yX8_numberIn := ⟨List.mem_of_getElem? (i := 510) (by decide +kernel), List.mem_of_getElem? (i := 511) (by decide +kernel)⟩
theorem kc_X8_39 : Cond.constant RX8 39 (100000) ∈ lw_tbl := List.mem_of_getElem? (i := 513) (by decide +kernel)
theorem lk_X8_40 : Cond.methodLink RX8 40 yJ9_min_7cf53 ∈ lw_tbl := List.mem_of_getElem? (i := 514) (by decide +kernel)
theorem lk_X3_47 : Cond.methodLink RX3 47 yX3_takesTick ∈ lw_tbl := List.mem_of_getElem? (i := 515) (by decide +kernel)
theorem mf_X3_takesTick : MF yX3_takesTick cX3_takesTick 2 (some .boolean) 1 := ⟨List.mem_of_getElem? (i := 518) (by decide +kernel), List.mem_of_getElem? (i := 42) (by decide +kernel), ⟨by decide +kernel, by decide +kernel⟩, by decide +kernel, by decide +kernel⟩
theorem mv_X3_takesTick : MV yX3_takesTick := ⟨List.mem_of_getElem? (i := 517) (by decide +kernel), List.mem_of_getElem? (i := 3) (by decide +kernel)⟩
theorem ln_X3_57 : Cond.methodLinkNest RX3 57 yX9_inRange RX9 ∈ lw_tbl := List.mem_of_getElem? (i := 519) (by decide +kernel)
theorem lk_X3_51 : Cond.methodLink RX3 51 yX3_takesTemperature ∈ lw_tbl := List.mem_of_getElem? (i := 520) (by decide +kernel)
theorem mf_X3_takesTemperature : MF yX3_takesTemperature cX3_takesTemperature 2 (some .boolean) 1 := ⟨List.mem_of_getElem? (i := 523) (by decide +kernel), List.mem_of_getElem? (i := 42) (by decide +kernel), ⟨by decide +kernel, by decide +kernel⟩, by decide +kernel, by decide +kernel⟩
theorem mv_X3_takesTemperature : MV yX3_takesTemperature := ⟨List.mem_of_getElem? (i := 522) (by decide +kernel), List.mem_of_getElem? (i := 4) (by decide +kernel)⟩
theorem lk_X3_61 : Cond.methodLink RX3 61 yX6_set ∈ lw_tbl := List.mem_of_getElem? (i := 524) (by decide +kernel)
theorem lk_X3_54 : Cond.methodLink RX3 54 yX8_character ∈ lw_tbl := List.mem_of_getElem? (i := 525) (by decide +kernel)
theorem kc_X9_148 : Cond.constant RX9 148 (-200000) ∈ lw_tbl := List.mem_of_getElem? (i := 526) (by decide +kernel)
theorem lk_X9_152 : Cond.methodLink RX9 152 yX6_copyFrom ∈ lw_tbl := List.mem_of_getElem? (i := 527) (by decide +kernel)
theorem lk_L_65 : Cond.methodLink RL 65 yX9_charge ∈ lw_tbl := List.mem_of_getElem? (i := 528) (by decide +kernel)
theorem mf_X9_charge : MF yX9_charge cX9_charge 2 (some .int) 1 := ⟨List.mem_of_getElem? (i := 531) (by decide +kernel), List.mem_of_getElem? (i := 32) (by decide +kernel), ⟨by decide +kernel, by decide +kernel⟩, by decide +kernel, by decide +kernel⟩
theorem mv_X9_charge : MV yX9_charge := ⟨List.mem_of_getElem? (i := 529) (by decide +kernel), List.mem_of_getElem? (i := 530) (by decide +kernel)⟩
theorem lk_X9_159 : Cond.methodLink RX9 159 yX4_startBatch ∈ lw_tbl := List.mem_of_getElem? (i := 532) (by decide +kernel)
theorem mf_X4_startBatch : MF yX4_startBatch cX4_startBatch 2 none 1 := ⟨List.mem_of_getElem? (i := 535) (by decide +kernel), List.mem_of_getElem? (i := 34) (by decide +kernel), ⟨by decide +kernel, by decide +kernel⟩, by decide +kernel, by decide +kernel⟩
theorem mv_X4_startBatch : MV yX4_startBatch := ⟨List.mem_of_getElem? (i := 533) (by decide +kernel), List.mem_of_getElem? (i := 534) (by decide +kernel)⟩
theorem lk_X4_54 : Cond.methodLink RX4 54 yX0_start ∈ lw_tbl := List.mem_of_getElem? (i := 536) (by decide +kernel)
theorem mf_X0_start : MF yX0_start cX0_start 4 none 2 := ⟨List.mem_of_getElem? (i := 539) (by decide +kernel), List.mem_of_getElem? (i := 36) (by decide +kernel), ⟨by decide +kernel, by decide +kernel⟩, by decide +kernel, by decide +kernel⟩
theorem mv_X0_start : MV yX0_start := ⟨List.mem_of_getElem? (i := 537) (by decide +kernel), List.mem_of_getElem? (i := 538) (by decide +kernel)⟩
theorem ln_X0_45 : Cond.methodLinkNest RX0 45 yX9_put RX9 ∈ lw_tbl := List.mem_of_getElem? (i := 540) (by decide +kernel)
theorem lk_L_69 : Cond.methodLink RL 69 yX9_drop ∈ lw_tbl := List.mem_of_getElem? (i := 541) (by decide +kernel)
theorem mf_X9_drop : MF yX9_drop cX9_drop 1 (some .int) 0 := ⟨List.mem_of_getElem? (i := 544) (by decide +kernel), List.mem_of_getElem? (i := 32) (by decide +kernel), ⟨by decide +kernel, by decide +kernel⟩, by decide +kernel, by decide +kernel⟩
theorem mv_X9_drop : MV yX9_drop := ⟨List.mem_of_getElem? (i := 542) (by decide +kernel), List.mem_of_getElem? (i := 543) (by decide +kernel)⟩
theorem lk_X9_169 : Cond.methodLink RX9 169 yX2_enter ∈ lw_tbl := List.mem_of_getElem? (i := 545) (by decide +kernel)
theorem mf_X2_enter : MF yX2_enter cX2_enter 3 none 1 := ⟨List.mem_of_getElem? (i := 548) (by decide +kernel), List.mem_of_getElem? (i := 39) (by decide +kernel), ⟨by decide +kernel, by decide +kernel⟩, by decide +kernel, by decide +kernel⟩
theorem mv_X2_enter : MV yX2_enter := ⟨List.mem_of_getElem? (i := 546) (by decide +kernel), List.mem_of_getElem? (i := 547) (by decide +kernel)⟩
theorem ln_X2_26 : Cond.methodLinkNest RX2 26 yX9_at RX9 ∈ lw_tbl := List.mem_of_getElem? (i := 549) (by decide +kernel)
theorem ln_X2_30 : Cond.methodLinkNest RX2 30 yX9_put RX9 ∈ lw_tbl := List.mem_of_getElem? (i := 550) (by decide +kernel)
theorem lk_X2_34 : Cond.methodLink RX2 34 yJ9_min_7cf53 ∈ lw_tbl := List.mem_of_getElem? (i := 551) (by decide +kernel)
theorem lk_L_73 : Cond.methodLink RL 73 yX9_takeAway ∈ lw_tbl := List.mem_of_getElem? (i := 552) (by decide +kernel)
theorem mf_X9_takeAway : MF yX9_takeAway cX9_takeAway 1 (some .int) 0 := ⟨List.mem_of_getElem? (i := 555) (by decide +kernel), List.mem_of_getElem? (i := 32) (by decide +kernel), ⟨by decide +kernel, by decide +kernel⟩, by decide +kernel, by decide +kernel⟩
theorem mv_X9_takeAway : MV yX9_takeAway := ⟨List.mem_of_getElem? (i := 553) (by decide +kernel), List.mem_of_getElem? (i := 554) (by decide +kernel)⟩
theorem lk_L_77 : Cond.methodLink RL 77 yX9_run ∈ lw_tbl := List.mem_of_getElem? (i := 556) (by decide +kernel)
theorem mf_X9_run : MF yX9_run cX9_run 3 (some .int) 1 := ⟨List.mem_of_getElem? (i := 559) (by decide +kernel), List.mem_of_getElem? (i := 32) (by decide +kernel), ⟨by decide +kernel, by decide +kernel⟩, by decide +kernel, by decide +kernel⟩
theorem mv_X9_run : MV yX9_run := ⟨List.mem_of_getElem? (i := 557) (by decide +kernel), List.mem_of_getElem? (i := 558) (by decide +kernel)⟩
theorem lk_X9_192 : Cond.methodLink RX9 192 yX4_tick ∈ lw_tbl := List.mem_of_getElem? (i := 560) (by decide +kernel)
theorem mf_X4_tick : MF yX4_tick cX4_tick 3 none 2 := ⟨List.mem_of_getElem? (i := 563) (by decide +kernel), List.mem_of_getElem? (i := 34) (by decide +kernel), ⟨by decide +kernel, by decide +kernel⟩, by decide +kernel, by decide +kernel⟩
theorem mv_X4_tick : MV yX4_tick := ⟨List.mem_of_getElem? (i := 561) (by decide +kernel), List.mem_of_getElem? (i := 562) (by decide +kernel)⟩
theorem lk_X4_61 : Cond.methodLink RX4 61 yX4_steer ∈ lw_tbl := List.mem_of_getElem? (i := 564) (by decide +kernel)
theorem mf_X4_steer : MF yX4_steer cX4_steer 4 none 1 := ⟨List.mem_of_getElem? (i := 567) (by decide +kernel), List.mem_of_getElem? (i := 34) (by decide +kernel), ⟨by decide +kernel, by decide +kernel⟩, by decide +kernel, by decide +kernel⟩
theorem mv_X4_steer : MV yX4_steer := ⟨List.mem_of_getElem? (i := 566) (by decide +kernel), List.mem_of_getElem? (i := 5) (by decide +kernel)⟩
theorem lk_X4_111 : Cond.methodLink RX4 111 yX6_valueOnLine ∈ lw_tbl := List.mem_of_getElem? (i := 568) (by decide +kernel)
theorem mf_X6_valueOnLine : MF yX6_valueOnLine cX6_valueOnLine 6 (some .int) 1 := ⟨List.mem_of_getElem? (i := 571) (by decide +kernel), List.mem_of_getElem? (i := 37) (by decide +kernel), ⟨by decide +kernel, by decide +kernel⟩, by decide +kernel, by decide +kernel⟩
theorem mv_X6_valueOnLine : MV yX6_valueOnLine := ⟨List.mem_of_getElem? (i := 569) (by decide +kernel), List.mem_of_getElem? (i := 570) (by decide +kernel)⟩
theorem ln_X6_55 : Cond.methodLinkNest RX6 55 yX9_quotient RX9 ∈ lw_tbl := List.mem_of_getElem? (i := 572) (by decide +kernel)
theorem ms_X9_quotient : Cond.static yX9_quotient ∈ lw_tbl := List.mem_of_getElem? (i := 573) (by decide +kernel)
theorem mf_X9_quotient : MF yX9_quotient cX9_quotient 4 (some .long) 2 := ⟨List.mem_of_getElem? (i := 574) (by decide +kernel), List.mem_of_getElem? (i := 32) (by decide +kernel), ⟨by decide +kernel, by decide +kernel⟩, by decide +kernel, by decide +kernel⟩
theorem lk_X9_236 : Cond.methodLink RX9 236 yJ9_floorDiv_f86c9 ∈ lw_tbl := List.mem_of_getElem? (i := 575) (by decide +kernel)
theorem ms_J9_floorDiv_f86c9 : Cond.static yJ9_floorDiv_f86c9 ∈ lw_tbl := List.mem_of_getElem? (i := 576) (by decide +kernel)
theorem mf_J9_floorDiv_f86c9 : MF yJ9_floorDiv_f86c9 cJ9_floorDiv_f86c9 6 (some .long) 2 := ⟨List.mem_of_getElem? (i := 577) (by decide +kernel), List.mem_of_getElem? (i := 38) (by decide +kernel), ⟨by decide +kernel, by decide +kernel⟩, by decide +kernel, by decide +kernel⟩
theorem ln_X4_114 : Cond.methodLinkNest RX4 114 yX9_clamp RX9 ∈ lw_tbl := List.mem_of_getElem? (i := 578) (by decide +kernel)
theorem ms_X9_clamp : Cond.static yX9_clamp ∈ lw_tbl := List.mem_of_getElem? (i := 579) (by decide +kernel)
theorem mf_X9_clamp : MF yX9_clamp cX9_clamp 3 (some .int) 3 := ⟨List.mem_of_getElem? (i := 580) (by decide +kernel), List.mem_of_getElem? (i := 32) (by decide +kernel), ⟨by decide +kernel, by decide +kernel⟩, by decide +kernel, by decide +kernel⟩
theorem lk_X9_233 : Cond.methodLink RX9 233 yJ9_max_7cf53 ∈ lw_tbl := List.mem_of_getElem? (i := 581) (by decide +kernel)
theorem lk_X4_124 : Cond.methodLink RX4 124 yJ9_floorDiv_7cf53 ∈ lw_tbl := List.mem_of_getElem? (i := 582) (by decide +kernel)
theorem ms_J9_floorDiv_7cf53 : Cond.static yJ9_floorDiv_7cf53 ∈ lw_tbl := List.mem_of_getElem? (i := 583) (by decide +kernel)
theorem mf_J9_floorDiv_7cf53 : MF yJ9_floorDiv_7cf53 cJ9_floorDiv_7cf53 3 (some .int) 2 := ⟨List.mem_of_getElem? (i := 584) (by decide +kernel), List.mem_of_getElem? (i := 38) (by decide +kernel), ⟨by decide +kernel, by decide +kernel⟩, by decide +kernel, by decide +kernel⟩
theorem lk_X4_65 : Cond.methodLink RX4 65 yX4_moveDrum ∈ lw_tbl := List.mem_of_getElem? (i := 585) (by decide +kernel)
theorem mf_X4_moveDrum : MF yX4_moveDrum cX4_moveDrum 3 none 0 := ⟨List.mem_of_getElem? (i := 588) (by decide +kernel), List.mem_of_getElem? (i := 34) (by decide +kernel), ⟨by decide +kernel, by decide +kernel⟩, by decide +kernel, by decide +kernel⟩
theorem mv_X4_moveDrum : MV yX4_moveDrum := ⟨List.mem_of_getElem? (i := 587) (by decide +kernel), List.mem_of_getElem? (i := 6) (by decide +kernel)⟩
theorem lk_X4_68 : Cond.methodLink RX4 68 yX0_roast ∈ lw_tbl := List.mem_of_getElem? (i := 589) (by decide +kernel)
theorem mf_X0_roast : MF yX0_roast cX0_roast 2 none 1 := ⟨List.mem_of_getElem? (i := 592) (by decide +kernel), List.mem_of_getElem? (i := 36) (by decide +kernel), ⟨by decide +kernel, by decide +kernel⟩, by decide +kernel, by decide +kernel⟩
theorem mv_X0_roast : MV yX0_roast := ⟨List.mem_of_getElem? (i := 590) (by decide +kernel), List.mem_of_getElem? (i := 591) (by decide +kernel)⟩
theorem lk_X0_49 : Cond.methodLink RX0 49 yJ9_floorDiv_7cf53 ∈ lw_tbl := List.mem_of_getElem? (i := 593) (by decide +kernel)
theorem lk_X0_55 : Cond.methodLink RX0 55 yJ9_max_7cf53 ∈ lw_tbl := List.mem_of_getElem? (i := 594) (by decide +kernel)
theorem lk_X4_75 : Cond.methodLink RX4 75 yX0_pop ∈ lw_tbl := List.mem_of_getElem? (i := 595) (by decide +kernel)
theorem mf_X0_pop : MF yX0_pop cX0_pop 4 none 1 := ⟨List.mem_of_getElem? (i := 598) (by decide +kernel), List.mem_of_getElem? (i := 36) (by decide +kernel), ⟨by decide +kernel, by decide +kernel⟩, by decide +kernel, by decide +kernel⟩
theorem mv_X0_pop : MV yX0_pop := ⟨List.mem_of_getElem? (i := 596) (by decide +kernel), List.mem_of_getElem? (i := 597) (by decide +kernel)⟩
theorem lk_X0_58 : Cond.methodLink RX0 58 yJ9_min_7cf53 ∈ lw_tbl := List.mem_of_getElem? (i := 599) (by decide +kernel)
theorem lk_X0_61 : Cond.methodLink RX0 61 yJ9_floorMod_7cf53 ∈ lw_tbl := List.mem_of_getElem? (i := 600) (by decide +kernel)
theorem lk_X4_84 : Cond.methodLink RX4 84 yX6_valueBelow ∈ lw_tbl := List.mem_of_getElem? (i := 601) (by decide +kernel)
theorem lk_X4_93 : Cond.methodLink RX4 93 yX0_cool ∈ lw_tbl := List.mem_of_getElem? (i := 602) (by decide +kernel)
theorem mf_X0_cool : MF yX0_cool cX0_cool 3 none 2 := ⟨List.mem_of_getElem? (i := 605) (by decide +kernel), List.mem_of_getElem? (i := 36) (by decide +kernel), ⟨by decide +kernel, by decide +kernel⟩, by decide +kernel, by decide +kernel⟩
theorem mv_X0_cool : MV yX0_cool := ⟨List.mem_of_getElem? (i := 603) (by decide +kernel), List.mem_of_getElem? (i := 604) (by decide +kernel)⟩
theorem lk_X4_96 : Cond.methodLink RX4 96 yX4_moveProbe ∈ lw_tbl := List.mem_of_getElem? (i := 606) (by decide +kernel)
theorem mf_X4_moveProbe : MF yX4_moveProbe cX4_moveProbe 2 none 0 := ⟨List.mem_of_getElem? (i := 609) (by decide +kernel), List.mem_of_getElem? (i := 34) (by decide +kernel), ⟨by decide +kernel, by decide +kernel⟩, by decide +kernel, by decide +kernel⟩
theorem mv_X4_moveProbe : MV yX4_moveProbe := ⟨List.mem_of_getElem? (i := 608) (by decide +kernel), List.mem_of_getElem? (i := 7) (by decide +kernel)⟩
theorem ln_X4_139 : Cond.methodLinkNest RX4 139 yX9_quotient RX9 ∈ lw_tbl := List.mem_of_getElem? (i := 610) (by decide +kernel)
theorem lk_X4_102 : Cond.methodLink RX4 102 yX0_lookForCrack ∈ lw_tbl := List.mem_of_getElem? (i := 611) (by decide +kernel)
theorem mf_X0_lookForCrack : MF yX0_lookForCrack cX0_lookForCrack 3 none 1 := ⟨List.mem_of_getElem? (i := 614) (by decide +kernel), List.mem_of_getElem? (i := 36) (by decide +kernel), ⟨by decide +kernel, by decide +kernel⟩, by decide +kernel, by decide +kernel⟩
theorem mv_X0_lookForCrack : MV yX0_lookForCrack := ⟨List.mem_of_getElem? (i := 612) (by decide +kernel), List.mem_of_getElem? (i := 613) (by decide +kernel)⟩
theorem lk_X0_64 : Cond.methodLink RX0 64 yX0_window ∈ lw_tbl := List.mem_of_getElem? (i := 615) (by decide +kernel)
theorem mf_X0_window : MF yX0_window cX0_window 3 (some .int) 0 := ⟨List.mem_of_getElem? (i := 618) (by decide +kernel), List.mem_of_getElem? (i := 36) (by decide +kernel), ⟨by decide +kernel, by decide +kernel⟩, by decide +kernel, by decide +kernel⟩
theorem mv_X0_window : MV yX0_window := ⟨List.mem_of_getElem? (i := 616) (by decide +kernel), List.mem_of_getElem? (i := 617) (by decide +kernel)⟩
theorem ln_X0_68 : Cond.methodLinkNest RX0 68 yX9_at RX9 ∈ lw_tbl := List.mem_of_getElem? (i := 619) (by decide +kernel)
theorem lk_L_81 : Cond.methodLink RL 81 yX9_undo ∈ lw_tbl := List.mem_of_getElem? (i := 620) (by decide +kernel)
theorem mf_X9_undo : MF yX9_undo cX9_undo 1 (some .int) 0 := ⟨List.mem_of_getElem? (i := 623) (by decide +kernel), List.mem_of_getElem? (i := 32) (by decide +kernel), ⟨by decide +kernel, by decide +kernel⟩, by decide +kernel, by decide +kernel⟩
theorem mv_X9_undo : MV yX9_undo := ⟨List.mem_of_getElem? (i := 621) (by decide +kernel), List.mem_of_getElem? (i := 622) (by decide +kernel)⟩
theorem lk_X9_200 : Cond.methodLink RX9 200 yX1_restore ∈ lw_tbl := List.mem_of_getElem? (i := 624) (by decide +kernel)
theorem mf_X1_restore : MF yX1_restore cX1_restore 3 none 1 := ⟨List.mem_of_getElem? (i := 627) (by decide +kernel), List.mem_of_getElem? (i := 40) (by decide +kernel), ⟨by decide +kernel, by decide +kernel⟩, by decide +kernel, by decide +kernel⟩
theorem mv_X1_restore : MV yX1_restore := ⟨List.mem_of_getElem? (i := 625) (by decide +kernel), List.mem_of_getElem? (i := 626) (by decide +kernel)⟩
theorem lk_L_85 : Cond.methodLink RL 85 yX9_count ∈ lw_tbl := List.mem_of_getElem? (i := 628) (by decide +kernel)
theorem mf_X9_count : MF yX9_count cX9_count 2 (some .int) 1 := ⟨List.mem_of_getElem? (i := 631) (by decide +kernel), List.mem_of_getElem? (i := 32) (by decide +kernel), ⟨by decide +kernel, by decide +kernel⟩, by decide +kernel, by decide +kernel⟩
theorem mv_X9_count : MV yX9_count := ⟨List.mem_of_getElem? (i := 629) (by decide +kernel), List.mem_of_getElem? (i := 630) (by decide +kernel)⟩
theorem lk_L_89 : Cond.methodLink RL 89 yX9_batch ∈ lw_tbl := List.mem_of_getElem? (i := 632) (by decide +kernel)
theorem mf_X9_batch : MF yX9_batch cX9_batch 2 (some .int) 1 := ⟨List.mem_of_getElem? (i := 635) (by decide +kernel), List.mem_of_getElem? (i := 32) (by decide +kernel), ⟨by decide +kernel, by decide +kernel⟩, by decide +kernel, by decide +kernel⟩
theorem mv_X9_batch : MV yX9_batch := ⟨List.mem_of_getElem? (i := 633) (by decide +kernel), List.mem_of_getElem? (i := 634) (by decide +kernel)⟩
theorem lk_X9_207 : Cond.methodLink RX9 207 yX0_number ∈ lw_tbl := List.mem_of_getElem? (i := 636) (by decide +kernel)
theorem mf_X0_number : MF yX0_number cX0_number 2 (some .int) 1 := ⟨List.mem_of_getElem? (i := 639) (by decide +kernel), List.mem_of_getElem? (i := 36) (by decide +kernel), ⟨by decide +kernel, by decide +kernel⟩, by decide +kernel, by decide +kernel⟩
theorem mv_X0_number : MV yX0_number := ⟨List.mem_of_getElem? (i := 637) (by decide +kernel), List.mem_of_getElem? (i := 638) (by decide +kernel)⟩
theorem kc_X0_72 : Cond.constant RX0 72 (-100001) ∈ lw_tbl := List.mem_of_getElem? (i := 640) (by decide +kernel)
theorem lk_L_93 : Cond.methodLink RL 93 yX9_target ∈ lw_tbl := List.mem_of_getElem? (i := 641) (by decide +kernel)
theorem mf_X9_target : MF yX9_target cX9_target 2 (some .int) 1 := ⟨List.mem_of_getElem? (i := 644) (by decide +kernel), List.mem_of_getElem? (i := 32) (by decide +kernel), ⟨by decide +kernel, by decide +kernel⟩, by decide +kernel, by decide +kernel⟩
theorem mv_X9_target : MV yX9_target := ⟨List.mem_of_getElem? (i := 642) (by decide +kernel), List.mem_of_getElem? (i := 643) (by decide +kernel)⟩
theorem kc_X9_210 : Cond.constant RX9 210 (-100009) ∈ lw_tbl := List.mem_of_getElem? (i := 645) (by decide +kernel)
theorem lk_X9_211 : Cond.methodLink RX9 211 yX6_valueOnLine ∈ lw_tbl := List.mem_of_getElem? (i := 646) (by decide +kernel)
theorem lk_L_97 : Cond.methodLink RL 97 yX9_rate ∈ lw_tbl := List.mem_of_getElem? (i := 647) (by decide +kernel)
theorem mf_X9_rate : MF yX9_rate cX9_rate 2 (some .int) 1 := ⟨List.mem_of_getElem? (i := 650) (by decide +kernel), List.mem_of_getElem? (i := 32) (by decide +kernel), ⟨by decide +kernel, by decide +kernel⟩, by decide +kernel, by decide +kernel⟩
theorem mv_X9_rate : MV yX9_rate := ⟨List.mem_of_getElem? (i := 648) (by decide +kernel), List.mem_of_getElem? (i := 649) (by decide +kernel)⟩
theorem lk_L_101 : Cond.methodLink RL 101 yX9_logged ∈ lw_tbl := List.mem_of_getElem? (i := 651) (by decide +kernel)
theorem mf_X9_logged : MF yX9_logged cX9_logged 3 (some .int) 2 := ⟨List.mem_of_getElem? (i := 654) (by decide +kernel), List.mem_of_getElem? (i := 32) (by decide +kernel), ⟨by decide +kernel, by decide +kernel⟩, by decide +kernel, by decide +kernel⟩
theorem mv_X9_logged : MV yX9_logged := ⟨List.mem_of_getElem? (i := 652) (by decide +kernel), List.mem_of_getElem? (i := 653) (by decide +kernel)⟩
theorem lk_X9_214 : Cond.methodLink RX9 214 yX2_property ∈ lw_tbl := List.mem_of_getElem? (i := 655) (by decide +kernel)
theorem mf_X2_property : MF yX2_property cX2_property 3 (some .int) 2 := ⟨List.mem_of_getElem? (i := 658) (by decide +kernel), List.mem_of_getElem? (i := 39) (by decide +kernel), ⟨by decide +kernel, by decide +kernel⟩, by decide +kernel, by decide +kernel⟩
theorem mv_X2_property : MV yX2_property := ⟨List.mem_of_getElem? (i := 656) (by decide +kernel), List.mem_of_getElem? (i := 657) (by decide +kernel)⟩
theorem lk_L_105 : Cond.methodLink RL 105 yX9_drift ∈ lw_tbl := List.mem_of_getElem? (i := 659) (by decide +kernel)
theorem mf_X9_drift : MF yX9_drift cX9_drift 2 (some .int) 1 := ⟨List.mem_of_getElem? (i := 662) (by decide +kernel), List.mem_of_getElem? (i := 32) (by decide +kernel), ⟨by decide +kernel, by decide +kernel⟩, by decide +kernel, by decide +kernel⟩
theorem mv_X9_drift : MV yX9_drift := ⟨List.mem_of_getElem? (i := 660) (by decide +kernel), List.mem_of_getElem? (i := 661) (by decide +kernel)⟩
theorem lk_X9_217 : Cond.methodLink RX9 217 yX2_slope ∈ lw_tbl := List.mem_of_getElem? (i := 663) (by decide +kernel)
theorem mf_X2_slope : MF yX2_slope cX2_slope 17 (some .int) 1 := ⟨List.mem_of_getElem? (i := 666) (by decide +kernel), List.mem_of_getElem? (i := 39) (by decide +kernel), ⟨by decide +kernel, by decide +kernel⟩, by decide +kernel, by decide +kernel⟩
theorem mv_X2_slope : MV yX2_slope := ⟨List.mem_of_getElem? (i := 664) (by decide +kernel), List.mem_of_getElem? (i := 665) (by decide +kernel)⟩
theorem lk_X2_57 : Cond.methodLink RX2 57 yX2_property ∈ lw_tbl := List.mem_of_getElem? (i := 667) (by decide +kernel)
theorem kl_X2_60 : Cond.constantLong RX2 60 (-100009) ∈ lw_tbl := List.mem_of_getElem? (i := 668) (by decide +kernel)
theorem kl_X2_62 : Cond.constantLong RX2 62 (2) ∈ lw_tbl := List.mem_of_getElem? (i := 669) (by decide +kernel)
theorem kc_X2_64 : Cond.constant RX2 64 (-100009) ∈ lw_tbl := List.mem_of_getElem? (i := 670) (by decide +kernel)
theorem kl_X2_65 : Cond.constantLong RX2 65 (100) ∈ lw_tbl := List.mem_of_getElem? (i := 671) (by decide +kernel)
theorem ln_X2_67 : Cond.methodLinkNest RX2 67 yX9_quotient RX9 ∈ lw_tbl := List.mem_of_getElem? (i := 672) (by decide +kernel)
theorem lk_L_109 : Cond.methodLink RL 109 yX9_ticksTo ∈ lw_tbl := List.mem_of_getElem? (i := 673) (by decide +kernel)
theorem mf_X9_ticksTo : MF yX9_ticksTo cX9_ticksTo 3 (some .int) 1 := ⟨List.mem_of_getElem? (i := 676) (by decide +kernel), List.mem_of_getElem? (i := 32) (by decide +kernel), ⟨by decide +kernel, by decide +kernel⟩, by decide +kernel, by decide +kernel⟩
theorem mv_X9_ticksTo : MV yX9_ticksTo := ⟨List.mem_of_getElem? (i := 674) (by decide +kernel), List.mem_of_getElem? (i := 675) (by decide +kernel)⟩
theorem lk_X9_220 : Cond.methodLink RX9 220 yX4_copyFrom ∈ lw_tbl := List.mem_of_getElem? (i := 677) (by decide +kernel)
theorem lk_L_113 : Cond.methodLink RL 113 yX9_ticksToLoss ∈ lw_tbl := List.mem_of_getElem? (i := 678) (by decide +kernel)
theorem mf_X9_ticksToLoss : MF yX9_ticksToLoss cX9_ticksToLoss 3 (some .int) 1 := ⟨List.mem_of_getElem? (i := 681) (by decide +kernel), List.mem_of_getElem? (i := 32) (by decide +kernel), ⟨by decide +kernel, by decide +kernel⟩, by decide +kernel, by decide +kernel⟩
theorem mv_X9_ticksToLoss : MV yX9_ticksToLoss := ⟨List.mem_of_getElem? (i := 679) (by decide +kernel), List.mem_of_getElem? (i := 680) (by decide +kernel)⟩
theorem kc_X9_223 : Cond.constant RX9 223 (100000) ∈ lw_tbl := List.mem_of_getElem? (i := 682) (by decide +kernel)
theorem lk_L_117 : Cond.methodLink RL 117 yX9_bestBias ∈ lw_tbl := List.mem_of_getElem? (i := 683) (by decide +kernel)
theorem mf_X9_bestBias : MF yX9_bestBias cX9_bestBias 6 (some .int) 1 := ⟨List.mem_of_getElem? (i := 686) (by decide +kernel), List.mem_of_getElem? (i := 32) (by decide +kernel), ⟨by decide +kernel, by decide +kernel⟩, by decide +kernel, by decide +kernel⟩
theorem mv_X9_bestBias : MV yX9_bestBias := ⟨List.mem_of_getElem? (i := 684) (by decide +kernel), List.mem_of_getElem? (i := 685) (by decide +kernel)⟩
theorem lk_X9_224 : Cond.methodLink RX9 224 yX9_deviationWith ∈ lw_tbl := List.mem_of_getElem? (i := 687) (by decide +kernel)
theorem mf_X9_deviationWith : MF yX9_deviationWith cX9_deviationWith 5 (some .int) 2 := ⟨List.mem_of_getElem? (i := 690) (by decide +kernel), List.mem_of_getElem? (i := 32) (by decide +kernel), ⟨by decide +kernel, by decide +kernel⟩, by decide +kernel, by decide +kernel⟩
theorem mv_X9_deviationWith : MV yX9_deviationWith := ⟨List.mem_of_getElem? (i := 689) (by decide +kernel), List.mem_of_getElem? (i := 8) (by decide +kernel)⟩
theorem lk_X9_230 : Cond.methodLink RX9 230 yJ9_abs_0f7a4 ∈ lw_tbl := List.mem_of_getElem? (i := 691) (by decide +kernel)
theorem ms_J9_abs_0f7a4 : Cond.static yJ9_abs_0f7a4 ∈ lw_tbl := List.mem_of_getElem? (i := 692) (by decide +kernel)
theorem mf_J9_abs_0f7a4 : MF yJ9_abs_0f7a4 cJ9_abs_0f7a4 1 (some .int) 1 := ⟨List.mem_of_getElem? (i := 693) (by decide +kernel), List.mem_of_getElem? (i := 38) (by decide +kernel), ⟨by decide +kernel, by decide +kernel⟩, by decide +kernel, by decide +kernel⟩
theorem lk_L_12 : Cond.methodLink RL 12 yX10_init ∈ lw_tbl := List.mem_of_getElem? (i := 696) (by decide +kernel)
theorem mf_X10_init : MF yX10_init cX10_init 1 none 0 := ⟨List.mem_of_getElem? (i := 698) (by decide +kernel), List.mem_of_getElem? (i := 43) (by decide +kernel), ⟨by decide +kernel, by decide +kernel⟩, by decide +kernel, by decide +kernel⟩
theorem mi_X10_init : Cond.instanceMethod yX10_init ∈ lw_tbl := List.mem_of_getElem? (i := 697) (by decide +kernel)
theorem lk_X10_1 : Cond.methodLink RX10 1 objectInit ∈ lw_tbl := List.mem_of_getElem? (i := 699) (by decide +kernel)
theorem lk_X10_29 : Cond.methodLink RX10 29 yX10_row ∈ lw_tbl := List.mem_of_getElem? (i := 700) (by decide +kernel)
theorem mf_X10_row : MF yX10_row cX10_row 4 none 3 := ⟨List.mem_of_getElem? (i := 703) (by decide +kernel), List.mem_of_getElem? (i := 43) (by decide +kernel), ⟨by decide +kernel, by decide +kernel⟩, by decide +kernel, by decide +kernel⟩
theorem mv_X10_row : MV yX10_row := ⟨List.mem_of_getElem? (i := 702) (by decide +kernel), List.mem_of_getElem? (i := 9) (by decide +kernel)⟩
theorem fl_X10_25 : Cond.fieldLink RX10 25 "RoastKeeperModel" "thrown" "I" ∈ lw_tbl := List.mem_of_getElem? (i := 704) (by decide +kernel)
theorem fl_X10_7 : Cond.fieldLink RX10 7 "RoastKeeperModel" "s" "[I" ∈ lw_tbl := List.mem_of_getElem? (i := 705) (by decide +kernel)
theorem fl_X10_13 : Cond.fieldLink RX10 13 "RoastKeeperModel" "aside" "[I" ∈ lw_tbl := List.mem_of_getElem? (i := 706) (by decide +kernel)
theorem fl_X10_16 : Cond.fieldLink RX10 16 "RoastKeeperModel" "saved" "[I" ∈ lw_tbl := List.mem_of_getElem? (i := 707) (by decide +kernel)
theorem fl_X10_33 : Cond.fieldLink RX10 33 "RoastKeeperModel" "savedMany" "I" ∈ lw_tbl := List.mem_of_getElem? (i := 708) (by decide +kernel)
theorem fl_X10_19 : Cond.fieldLink RX10 19 "RoastKeeperModel" "text" "[I" ∈ lw_tbl := List.mem_of_getElem? (i := 709) (by decide +kernel)
theorem fl_X10_65 : Cond.fieldLink RX10 65 "RoastKeeperModel" "length" "I" ∈ lw_tbl := List.mem_of_getElem? (i := 710) (by decide +kernel)
theorem fl_X10_68 : Cond.fieldLink RX10 68 "RoastKeeperModel" "next" "I" ∈ lw_tbl := List.mem_of_getElem? (i := 711) (by decide +kernel)
theorem fl_X10_78 : Cond.fieldLink RX10 78 "RoastKeeperModel" "wrong" "I" ∈ lw_tbl := List.mem_of_getElem? (i := 712) (by decide +kernel)
theorem fl_X10_22 : Cond.fieldLink RX10 22 "RoastKeeperModel" "points" "[I" ∈ lw_tbl := List.mem_of_getElem? (i := 713) (by decide +kernel)
theorem lk_L_17 : Cond.methodLink RL 17 yX10_setAmbient ∈ lw_tbl := List.mem_of_getElem? (i := 735) (by decide +kernel)
theorem mf_X10_setAmbient : MF yX10_setAmbient cX10_setAmbient 2 (some .int) 1 := ⟨List.mem_of_getElem? (i := 738) (by decide +kernel), List.mem_of_getElem? (i := 43) (by decide +kernel), ⟨by decide +kernel, by decide +kernel⟩, by decide +kernel, by decide +kernel⟩
theorem mv_X10_setAmbient : MV yX10_setAmbient := ⟨List.mem_of_getElem? (i := 736) (by decide +kernel), List.mem_of_getElem? (i := 737) (by decide +kernel)⟩
theorem lk_X10_39 : Cond.methodLink RX10 39 yX10_in ∈ lw_tbl := List.mem_of_getElem? (i := 739) (by decide +kernel)
theorem ms_X10_in : Cond.static yX10_in ∈ lw_tbl := List.mem_of_getElem? (i := 740) (by decide +kernel)
theorem mf_X10_in : MF yX10_in cX10_in 3 (some .boolean) 3 := ⟨List.mem_of_getElem? (i := 741) (by decide +kernel), List.mem_of_getElem? (i := 43) (by decide +kernel), ⟨by decide +kernel, by decide +kernel⟩, by decide +kernel, by decide +kernel⟩
theorem lk_X10_43 : Cond.methodLink RX10 43 yX10_put ∈ lw_tbl := List.mem_of_getElem? (i := 742) (by decide +kernel)
theorem mf_X10_put : MF yX10_put cX10_put 4 (some .int) 2 := ⟨List.mem_of_getElem? (i := 745) (by decide +kernel), List.mem_of_getElem? (i := 43) (by decide +kernel), ⟨by decide +kernel, by decide +kernel⟩, by decide +kernel, by decide +kernel⟩
theorem mv_X10_put : MV yX10_put := ⟨List.mem_of_getElem? (i := 744) (by decide +kernel), List.mem_of_getElem? (i := 10) (by decide +kernel)⟩
theorem lk_X10_36 : Cond.methodLink RX10 36 yX10_act ∈ lw_tbl := List.mem_of_getElem? (i := 746) (by decide +kernel)
theorem mf_X10_act : MF yX10_act cX10_act 2 none 0 := ⟨List.mem_of_getElem? (i := 749) (by decide +kernel), List.mem_of_getElem? (i := 43) (by decide +kernel), ⟨by decide +kernel, by decide +kernel⟩, by decide +kernel, by decide +kernel⟩
theorem mv_X10_act : MV yX10_act := ⟨List.mem_of_getElem? (i := 748) (by decide +kernel), List.mem_of_getElem? (i := 11) (by decide +kernel)⟩
theorem kc_X10_47 : Cond.constant RX10 47 (-100001) ∈ lw_tbl := List.mem_of_getElem? (i := 750) (by decide +kernel)
theorem lk_L_21 : Cond.methodLink RL 21 yX10_setPower ∈ lw_tbl := List.mem_of_getElem? (i := 751) (by decide +kernel)
theorem mf_X10_setPower : MF yX10_setPower cX10_setPower 2 (some .int) 1 := ⟨List.mem_of_getElem? (i := 754) (by decide +kernel), List.mem_of_getElem? (i := 43) (by decide +kernel), ⟨by decide +kernel, by decide +kernel⟩, by decide +kernel, by decide +kernel⟩
theorem mv_X10_setPower : MV yX10_setPower := ⟨List.mem_of_getElem? (i := 752) (by decide +kernel), List.mem_of_getElem? (i := 753) (by decide +kernel)⟩
theorem lk_L_26 : Cond.methodLink RL 26 yX10_setController ∈ lw_tbl := List.mem_of_getElem? (i := 755) (by decide +kernel)
theorem mf_X10_setController : MF yX10_setController cX10_setController 6 (some .int) 4 := ⟨List.mem_of_getElem? (i := 758) (by decide +kernel), List.mem_of_getElem? (i := 43) (by decide +kernel), ⟨by decide +kernel, by decide +kernel⟩, by decide +kernel, by decide +kernel⟩
theorem mv_X10_setController : MV yX10_setController := ⟨List.mem_of_getElem? (i := 756) (by decide +kernel), List.mem_of_getElem? (i := 757) (by decide +kernel)⟩
theorem lk_L_31 : Cond.methodLink RL 31 yX10_setProbe ∈ lw_tbl := List.mem_of_getElem? (i := 759) (by decide +kernel)
theorem mf_X10_setProbe : MF yX10_setProbe cX10_setProbe 4 (some .int) 2 := ⟨List.mem_of_getElem? (i := 762) (by decide +kernel), List.mem_of_getElem? (i := 43) (by decide +kernel), ⟨by decide +kernel, by decide +kernel⟩, by decide +kernel, by decide +kernel⟩
theorem mv_X10_setProbe : MV yX10_setProbe := ⟨List.mem_of_getElem? (i := 760) (by decide +kernel), List.mem_of_getElem? (i := 761) (by decide +kernel)⟩
theorem lk_L_35 : Cond.methodLink RL 35 yX10_setCrack ∈ lw_tbl := List.mem_of_getElem? (i := 763) (by decide +kernel)
theorem mf_X10_setCrack : MF yX10_setCrack cX10_setCrack 4 (some .int) 2 := ⟨List.mem_of_getElem? (i := 766) (by decide +kernel), List.mem_of_getElem? (i := 43) (by decide +kernel), ⟨by decide +kernel, by decide +kernel⟩, by decide +kernel, by decide +kernel⟩
theorem mv_X10_setCrack : MV yX10_setCrack := ⟨List.mem_of_getElem? (i := 764) (by decide +kernel), List.mem_of_getElem? (i := 765) (by decide +kernel)⟩
theorem lk_L_39 : Cond.methodLink RL 39 yX10_setFan ∈ lw_tbl := List.mem_of_getElem? (i := 767) (by decide +kernel)
theorem mf_X10_setFan : MF yX10_setFan cX10_setFan 2 (some .int) 1 := ⟨List.mem_of_getElem? (i := 770) (by decide +kernel), List.mem_of_getElem? (i := 43) (by decide +kernel), ⟨by decide +kernel, by decide +kernel⟩, by decide +kernel, by decide +kernel⟩
theorem mv_X10_setFan : MV yX10_setFan := ⟨List.mem_of_getElem? (i := 768) (by decide +kernel), List.mem_of_getElem? (i := 769) (by decide +kernel)⟩
theorem lk_L_43 : Cond.methodLink RL 43 yX10_setPoint ∈ lw_tbl := List.mem_of_getElem? (i := 771) (by decide +kernel)
theorem mf_X10_setPoint : MF yX10_setPoint cX10_setPoint 4 (some .int) 2 := ⟨List.mem_of_getElem? (i := 774) (by decide +kernel), List.mem_of_getElem? (i := 43) (by decide +kernel), ⟨by decide +kernel, by decide +kernel⟩, by decide +kernel, by decide +kernel⟩
theorem mv_X10_setPoint : MV yX10_setPoint := ⟨List.mem_of_getElem? (i := 772) (by decide +kernel), List.mem_of_getElem? (i := 773) (by decide +kernel)⟩
theorem lk_X10_48 : Cond.methodLink RX10 48 yX10_place ∈ lw_tbl := List.mem_of_getElem? (i := 775) (by decide +kernel)
theorem mf_X10_place : MF yX10_place cX10_place 5 (some .int) 3 := ⟨List.mem_of_getElem? (i := 778) (by decide +kernel), List.mem_of_getElem? (i := 43) (by decide +kernel), ⟨by decide +kernel, by decide +kernel⟩, by decide +kernel, by decide +kernel⟩
theorem mv_X10_place : MV yX10_place := ⟨List.mem_of_getElem? (i := 777) (by decide +kernel), List.mem_of_getElem? (i := 12) (by decide +kernel)⟩
theorem lk_X10_52 : Cond.methodLink RX10 52 yX10_isAt ∈ lw_tbl := List.mem_of_getElem? (i := 779) (by decide +kernel)
theorem mf_X10_isAt : MF yX10_isAt cX10_isAt 5 (some .boolean) 4 := ⟨List.mem_of_getElem? (i := 782) (by decide +kernel), List.mem_of_getElem? (i := 43) (by decide +kernel), ⟨by decide +kernel, by decide +kernel⟩, by decide +kernel, by decide +kernel⟩
theorem mv_X10_isAt : MV yX10_isAt := ⟨List.mem_of_getElem? (i := 781) (by decide +kernel), List.mem_of_getElem? (i := 13) (by decide +kernel)⟩
theorem kc_X10_56 : Cond.constant RX10 56 (-100003) ∈ lw_tbl := List.mem_of_getElem? (i := 783) (by decide +kernel)
theorem lk_X10_57 : Cond.methodLink RX10 57 yX10_insert ∈ lw_tbl := List.mem_of_getElem? (i := 784) (by decide +kernel)
theorem mf_X10_insert : MF yX10_insert cX10_insert 7 none 4 := ⟨List.mem_of_getElem? (i := 787) (by decide +kernel), List.mem_of_getElem? (i := 43) (by decide +kernel), ⟨by decide +kernel, by decide +kernel⟩, by decide +kernel, by decide +kernel⟩
theorem mv_X10_insert : MV yX10_insert := ⟨List.mem_of_getElem? (i := 786) (by decide +kernel), List.mem_of_getElem? (i := 14) (by decide +kernel)⟩
theorem lk_L_47 : Cond.methodLink RL 47 yX10_removePoint ∈ lw_tbl := List.mem_of_getElem? (i := 788) (by decide +kernel)
theorem mf_X10_removePoint : MF yX10_removePoint cX10_removePoint 4 (some .int) 1 := ⟨List.mem_of_getElem? (i := 791) (by decide +kernel), List.mem_of_getElem? (i := 43) (by decide +kernel), ⟨by decide +kernel, by decide +kernel⟩, by decide +kernel, by decide +kernel⟩
theorem mv_X10_removePoint : MV yX10_removePoint := ⟨List.mem_of_getElem? (i := 789) (by decide +kernel), List.mem_of_getElem? (i := 790) (by decide +kernel)⟩
theorem kc_X10_61 : Cond.constant RX10 61 (-100002) ∈ lw_tbl := List.mem_of_getElem? (i := 792) (by decide +kernel)
theorem lk_X10_62 : Cond.methodLink RX10 62 yX10_takeOut ∈ lw_tbl := List.mem_of_getElem? (i := 793) (by decide +kernel)
theorem mf_X10_takeOut : MF yX10_takeOut cX10_takeOut 5 none 3 := ⟨List.mem_of_getElem? (i := 796) (by decide +kernel), List.mem_of_getElem? (i := 43) (by decide +kernel), ⟨by decide +kernel, by decide +kernel⟩, by decide +kernel, by decide +kernel⟩
theorem mv_X10_takeOut : MV yX10_takeOut := ⟨List.mem_of_getElem? (i := 795) (by decide +kernel), List.mem_of_getElem? (i := 15) (by decide +kernel)⟩
theorem lk_L_51 : Cond.methodLink RL 51 yX10_setRow ∈ lw_tbl := List.mem_of_getElem? (i := 797) (by decide +kernel)
theorem mf_X10_setRow : MF yX10_setRow cX10_setRow 5 (some .int) 2 := ⟨List.mem_of_getElem? (i := 800) (by decide +kernel), List.mem_of_getElem? (i := 43) (by decide +kernel), ⟨by decide +kernel, by decide +kernel⟩, by decide +kernel, by decide +kernel⟩
theorem mv_X10_setRow : MV yX10_setRow := ⟨List.mem_of_getElem? (i := 798) (by decide +kernel), List.mem_of_getElem? (i := 799) (by decide +kernel)⟩
theorem lk_L_55 : Cond.methodLink RL 55 yX10_append ∈ lw_tbl := List.mem_of_getElem? (i := 801) (by decide +kernel)
theorem mf_X10_append : MF yX10_append cX10_append 2 (some .int) 1 := ⟨List.mem_of_getElem? (i := 804) (by decide +kernel), List.mem_of_getElem? (i := 43) (by decide +kernel), ⟨by decide +kernel, by decide +kernel⟩, by decide +kernel, by decide +kernel⟩
theorem mv_X10_append : MV yX10_append := ⟨List.mem_of_getElem? (i := 802) (by decide +kernel), List.mem_of_getElem? (i := 803) (by decide +kernel)⟩
theorem lk_L_60 : Cond.methodLink RL 60 yX10_clearText ∈ lw_tbl := List.mem_of_getElem? (i := 805) (by decide +kernel)
theorem mf_X10_clearText : MF yX10_clearText cX10_clearText 2 (some .int) 0 := ⟨List.mem_of_getElem? (i := 808) (by decide +kernel), List.mem_of_getElem? (i := 43) (by decide +kernel), ⟨by decide +kernel, by decide +kernel⟩, by decide +kernel, by decide +kernel⟩
theorem mv_X10_clearText : MV yX10_clearText := ⟨List.mem_of_getElem? (i := 806) (by decide +kernel), List.mem_of_getElem? (i := 807) (by decide +kernel)⟩
theorem lk_L_64 : Cond.methodLink RL 64 yX10_load ∈ lw_tbl := List.mem_of_getElem? (i := 809) (by decide +kernel)
theorem mf_X10_load : MF yX10_load cX10_load 3 (some .int) 0 := ⟨List.mem_of_getElem? (i := 812) (by decide +kernel), List.mem_of_getElem? (i := 43) (by decide +kernel), ⟨by decide +kernel, by decide +kernel⟩, by decide +kernel, by decide +kernel⟩
theorem mv_X10_load : MV yX10_load := ⟨List.mem_of_getElem? (i := 810) (by decide +kernel), List.mem_of_getElem? (i := 811) (by decide +kernel)⟩
theorem lk_X10_85 : Cond.methodLink RX10 85 yX10_hold ∈ lw_tbl := List.mem_of_getElem? (i := 813) (by decide +kernel)
theorem mf_X10_hold : MF yX10_hold cX10_hold 2 none 0 := ⟨List.mem_of_getElem? (i := 816) (by decide +kernel), List.mem_of_getElem? (i := 43) (by decide +kernel), ⟨by decide +kernel, by decide +kernel⟩, by decide +kernel, by decide +kernel⟩
theorem mv_X10_hold : MV yX10_hold := ⟨List.mem_of_getElem? (i := 815) (by decide +kernel), List.mem_of_getElem? (i := 16) (by decide +kernel)⟩
theorem kc_X10_81 : Cond.constant RX10 81 (-100009) ∈ lw_tbl := List.mem_of_getElem? (i := 817) (by decide +kernel)
theorem lk_X10_75 : Cond.methodLink RX10 75 yX10_skip ∈ lw_tbl := List.mem_of_getElem? (i := 818) (by decide +kernel)
theorem mf_X10_skip : MF yX10_skip cX10_skip 1 none 0 := ⟨List.mem_of_getElem? (i := 821) (by decide +kernel), List.mem_of_getElem? (i := 43) (by decide +kernel), ⟨by decide +kernel, by decide +kernel⟩, by decide +kernel, by decide +kernel⟩
theorem mv_X10_skip : MV yX10_skip := ⟨List.mem_of_getElem? (i := 820) (by decide +kernel), List.mem_of_getElem? (i := 17) (by decide +kernel)⟩
theorem lk_X10_71 : Cond.methodLink RX10 71 yX10_here ∈ lw_tbl := List.mem_of_getElem? (i := 822) (by decide +kernel)
theorem mf_X10_here : MF yX10_here cX10_here 1 (some .int) 0 := ⟨List.mem_of_getElem? (i := 825) (by decide +kernel), List.mem_of_getElem? (i := 43) (by decide +kernel), ⟨by decide +kernel, by decide +kernel⟩, by decide +kernel, by decide +kernel⟩
theorem mv_X10_here : MV yX10_here := ⟨List.mem_of_getElem? (i := 824) (by decide +kernel), List.mem_of_getElem? (i := 18) (by decide +kernel)⟩
theorem lk_X10_88 : Cond.methodLink RX10 88 yX10_readPoint ∈ lw_tbl := List.mem_of_getElem? (i := 826) (by decide +kernel)
theorem mf_X10_readPoint : MF yX10_readPoint cX10_readPoint 4 none 1 := ⟨List.mem_of_getElem? (i := 829) (by decide +kernel), List.mem_of_getElem? (i := 43) (by decide +kernel), ⟨by decide +kernel, by decide +kernel⟩, by decide +kernel, by decide +kernel⟩
theorem mv_X10_readPoint : MV yX10_readPoint := ⟨List.mem_of_getElem? (i := 828) (by decide +kernel), List.mem_of_getElem? (i := 19) (by decide +kernel)⟩
theorem lk_X10_82 : Cond.methodLink RX10 82 yX10_takeNumber ∈ lw_tbl := List.mem_of_getElem? (i := 830) (by decide +kernel)
theorem mf_X10_takeNumber : MF yX10_takeNumber cX10_takeNumber 6 (some .int) 2 := ⟨List.mem_of_getElem? (i := 833) (by decide +kernel), List.mem_of_getElem? (i := 43) (by decide +kernel), ⟨by decide +kernel, by decide +kernel⟩, by decide +kernel, by decide +kernel⟩
theorem mv_X10_takeNumber : MV yX10_takeNumber := ⟨List.mem_of_getElem? (i := 832) (by decide +kernel), List.mem_of_getElem? (i := 20) (by decide +kernel)⟩
theorem lk_X10_92 : Cond.methodLink RX10 92 yX10_release ∈ lw_tbl := List.mem_of_getElem? (i := 834) (by decide +kernel)
theorem mf_X10_release : MF yX10_release cX10_release 2 none 0 := ⟨List.mem_of_getElem? (i := 837) (by decide +kernel), List.mem_of_getElem? (i := 43) (by decide +kernel), ⟨by decide +kernel, by decide +kernel⟩, by decide +kernel, by decide +kernel⟩
theorem mv_X10_release : MV yX10_release := ⟨List.mem_of_getElem? (i := 836) (by decide +kernel), List.mem_of_getElem? (i := 21) (by decide +kernel)⟩
theorem kc_X10_95 : Cond.constant RX10 95 (-200000) ∈ lw_tbl := List.mem_of_getElem? (i := 838) (by decide +kernel)
theorem lk_L_68 : Cond.methodLink RL 68 yX10_charge ∈ lw_tbl := List.mem_of_getElem? (i := 839) (by decide +kernel)
theorem mf_X10_charge : MF yX10_charge cX10_charge 3 (some .int) 1 := ⟨List.mem_of_getElem? (i := 842) (by decide +kernel), List.mem_of_getElem? (i := 43) (by decide +kernel), ⟨by decide +kernel, by decide +kernel⟩, by decide +kernel, by decide +kernel⟩
theorem mv_X10_charge : MV yX10_charge := ⟨List.mem_of_getElem? (i := 840) (by decide +kernel), List.mem_of_getElem? (i := 841) (by decide +kernel)⟩
theorem lk_L_72 : Cond.methodLink RL 72 yX10_drop ∈ lw_tbl := List.mem_of_getElem? (i := 843) (by decide +kernel)
theorem mf_X10_drop : MF yX10_drop cX10_drop 2 (some .int) 0 := ⟨List.mem_of_getElem? (i := 846) (by decide +kernel), List.mem_of_getElem? (i := 43) (by decide +kernel), ⟨by decide +kernel, by decide +kernel⟩, by decide +kernel, by decide +kernel⟩
theorem mv_X10_drop : MV yX10_drop := ⟨List.mem_of_getElem? (i := 844) (by decide +kernel), List.mem_of_getElem? (i := 845) (by decide +kernel)⟩
theorem lk_X10_96 : Cond.methodLink RX10 96 yX10_isRoasting ∈ lw_tbl := List.mem_of_getElem? (i := 847) (by decide +kernel)
theorem mf_X10_isRoasting : MF yX10_isRoasting cX10_isRoasting 1 (some .boolean) 0 := ⟨List.mem_of_getElem? (i := 850) (by decide +kernel), List.mem_of_getElem? (i := 43) (by decide +kernel), ⟨by decide +kernel, by decide +kernel⟩, by decide +kernel, by decide +kernel⟩
theorem mv_X10_isRoasting : MV yX10_isRoasting := ⟨List.mem_of_getElem? (i := 849) (by decide +kernel), List.mem_of_getElem? (i := 22) (by decide +kernel)⟩
theorem lk_X10_100 : Cond.methodLink RX10 100 yX10_clamp ∈ lw_tbl := List.mem_of_getElem? (i := 851) (by decide +kernel)
theorem ms_X10_clamp : Cond.static yX10_clamp ∈ lw_tbl := List.mem_of_getElem? (i := 852) (by decide +kernel)
theorem mf_X10_clamp : MF yX10_clamp cX10_clamp 3 (some .int) 3 := ⟨List.mem_of_getElem? (i := 853) (by decide +kernel), List.mem_of_getElem? (i := 43) (by decide +kernel), ⟨by decide +kernel, by decide +kernel⟩, by decide +kernel, by decide +kernel⟩
theorem lk_L_76 : Cond.methodLink RL 76 yX10_takeAway ∈ lw_tbl := List.mem_of_getElem? (i := 854) (by decide +kernel)
theorem mf_X10_takeAway : MF yX10_takeAway cX10_takeAway 1 (some .int) 0 := ⟨List.mem_of_getElem? (i := 857) (by decide +kernel), List.mem_of_getElem? (i := 43) (by decide +kernel), ⟨by decide +kernel, by decide +kernel⟩, by decide +kernel, by decide +kernel⟩
theorem mv_X10_takeAway : MV yX10_takeAway := ⟨List.mem_of_getElem? (i := 855) (by decide +kernel), List.mem_of_getElem? (i := 856) (by decide +kernel)⟩
theorem lk_L_80 : Cond.methodLink RL 80 yX10_run ∈ lw_tbl := List.mem_of_getElem? (i := 858) (by decide +kernel)
theorem mf_X10_run : MF yX10_run cX10_run 3 (some .int) 1 := ⟨List.mem_of_getElem? (i := 861) (by decide +kernel), List.mem_of_getElem? (i := 43) (by decide +kernel), ⟨by decide +kernel, by decide +kernel⟩, by decide +kernel, by decide +kernel⟩
theorem mv_X10_run : MV yX10_run := ⟨List.mem_of_getElem? (i := 859) (by decide +kernel), List.mem_of_getElem? (i := 860) (by decide +kernel)⟩
theorem lk_X10_122 : Cond.methodLink RX10 122 yX10_tick ∈ lw_tbl := List.mem_of_getElem? (i := 862) (by decide +kernel)
theorem mf_X10_tick : MF yX10_tick cX10_tick 3 none 0 := ⟨List.mem_of_getElem? (i := 865) (by decide +kernel), List.mem_of_getElem? (i := 43) (by decide +kernel), ⟨by decide +kernel, by decide +kernel⟩, by decide +kernel, by decide +kernel⟩
theorem mv_X10_tick : MV yX10_tick := ⟨List.mem_of_getElem? (i := 864) (by decide +kernel), List.mem_of_getElem? (i := 23) (by decide +kernel)⟩
theorem lk_X10_110 : Cond.methodLink RX10 110 yX10_control ∈ lw_tbl := List.mem_of_getElem? (i := 866) (by decide +kernel)
theorem mf_X10_control : MF yX10_control cX10_control 3 none 0 := ⟨List.mem_of_getElem? (i := 869) (by decide +kernel), List.mem_of_getElem? (i := 43) (by decide +kernel), ⟨by decide +kernel, by decide +kernel⟩, by decide +kernel, by decide +kernel⟩
theorem mv_X10_control : MV yX10_control := ⟨List.mem_of_getElem? (i := 868) (by decide +kernel), List.mem_of_getElem? (i := 24) (by decide +kernel)⟩
theorem lk_X10_106 : Cond.methodLink RX10 106 yX10_targetAt ∈ lw_tbl := List.mem_of_getElem? (i := 870) (by decide +kernel)
theorem mf_X10_targetAt : MF yX10_targetAt cX10_targetAt 5 (some .int) 1 := ⟨List.mem_of_getElem? (i := 873) (by decide +kernel), List.mem_of_getElem? (i := 43) (by decide +kernel), ⟨by decide +kernel, by decide +kernel⟩, by decide +kernel, by decide +kernel⟩
theorem mv_X10_targetAt : MV yX10_targetAt := ⟨List.mem_of_getElem? (i := 872) (by decide +kernel), List.mem_of_getElem? (i := 25) (by decide +kernel)⟩
theorem lk_X10_103 : Cond.methodLink RX10 103 yX10_down ∈ lw_tbl := List.mem_of_getElem? (i := 874) (by decide +kernel)
theorem ms_X10_down : Cond.static yX10_down ∈ lw_tbl := List.mem_of_getElem? (i := 875) (by decide +kernel)
theorem mf_X10_down : MF yX10_down cX10_down 3 (some .int) 2 := ⟨List.mem_of_getElem? (i := 876) (by decide +kernel), List.mem_of_getElem? (i := 43) (by decide +kernel), ⟨by decide +kernel, by decide +kernel⟩, by decide +kernel, by decide +kernel⟩
theorem lk_X10_113 : Cond.methodLink RX10 113 yX10_crack ∈ lw_tbl := List.mem_of_getElem? (i := 877) (by decide +kernel)
theorem mf_X10_crack : MF yX10_crack cX10_crack 4 none 0 := ⟨List.mem_of_getElem? (i := 880) (by decide +kernel), List.mem_of_getElem? (i := 43) (by decide +kernel), ⟨by decide +kernel, by decide +kernel⟩, by decide +kernel, by decide +kernel⟩
theorem mv_X10_crack : MV yX10_crack := ⟨List.mem_of_getElem? (i := 879) (by decide +kernel), List.mem_of_getElem? (i := 26) (by decide +kernel)⟩
theorem lk_X10_116 : Cond.methodLink RX10 116 yX10_rateAt ∈ lw_tbl := List.mem_of_getElem? (i := 881) (by decide +kernel)
theorem mf_X10_rateAt : MF yX10_rateAt cX10_rateAt 3 (some .int) 1 := ⟨List.mem_of_getElem? (i := 884) (by decide +kernel), List.mem_of_getElem? (i := 43) (by decide +kernel), ⟨by decide +kernel, by decide +kernel⟩, by decide +kernel, by decide +kernel⟩
theorem mv_X10_rateAt : MV yX10_rateAt := ⟨List.mem_of_getElem? (i := 883) (by decide +kernel), List.mem_of_getElem? (i := 27) (by decide +kernel)⟩
theorem lk_X10_119 : Cond.methodLink RX10 119 yX10_detect ∈ lw_tbl := List.mem_of_getElem? (i := 885) (by decide +kernel)
theorem mf_X10_detect : MF yX10_detect cX10_detect 2 none 0 := ⟨List.mem_of_getElem? (i := 888) (by decide +kernel), List.mem_of_getElem? (i := 43) (by decide +kernel), ⟨by decide +kernel, by decide +kernel⟩, by decide +kernel, by decide +kernel⟩
theorem mv_X10_detect : MV yX10_detect := ⟨List.mem_of_getElem? (i := 887) (by decide +kernel), List.mem_of_getElem? (i := 28) (by decide +kernel)⟩
theorem lk_L_84 : Cond.methodLink RL 84 yX10_undo ∈ lw_tbl := List.mem_of_getElem? (i := 889) (by decide +kernel)
theorem mf_X10_undo : MF yX10_undo cX10_undo 2 (some .int) 0 := ⟨List.mem_of_getElem? (i := 892) (by decide +kernel), List.mem_of_getElem? (i := 43) (by decide +kernel), ⟨by decide +kernel, by decide +kernel⟩, by decide +kernel, by decide +kernel⟩
theorem mv_X10_undo : MV yX10_undo := ⟨List.mem_of_getElem? (i := 890) (by decide +kernel), List.mem_of_getElem? (i := 891) (by decide +kernel)⟩
theorem lk_L_88 : Cond.methodLink RL 88 yX10_count ∈ lw_tbl := List.mem_of_getElem? (i := 893) (by decide +kernel)
theorem mf_X10_count : MF yX10_count cX10_count 2 (some .int) 1 := ⟨List.mem_of_getElem? (i := 896) (by decide +kernel), List.mem_of_getElem? (i := 43) (by decide +kernel), ⟨by decide +kernel, by decide +kernel⟩, by decide +kernel, by decide +kernel⟩
theorem mv_X10_count : MV yX10_count := ⟨List.mem_of_getElem? (i := 894) (by decide +kernel), List.mem_of_getElem? (i := 895) (by decide +kernel)⟩
theorem lk_L_92 : Cond.methodLink RL 92 yX10_batch ∈ lw_tbl := List.mem_of_getElem? (i := 897) (by decide +kernel)
theorem mf_X10_batch : MF yX10_batch cX10_batch 2 (some .int) 1 := ⟨List.mem_of_getElem? (i := 900) (by decide +kernel), List.mem_of_getElem? (i := 43) (by decide +kernel), ⟨by decide +kernel, by decide +kernel⟩, by decide +kernel, by decide +kernel⟩
theorem mv_X10_batch : MV yX10_batch := ⟨List.mem_of_getElem? (i := 898) (by decide +kernel), List.mem_of_getElem? (i := 899) (by decide +kernel)⟩
theorem lk_L_96 : Cond.methodLink RL 96 yX10_target ∈ lw_tbl := List.mem_of_getElem? (i := 901) (by decide +kernel)
theorem mf_X10_target : MF yX10_target cX10_target 2 (some .int) 1 := ⟨List.mem_of_getElem? (i := 904) (by decide +kernel), List.mem_of_getElem? (i := 43) (by decide +kernel), ⟨by decide +kernel, by decide +kernel⟩, by decide +kernel, by decide +kernel⟩
theorem mv_X10_target : MV yX10_target := ⟨List.mem_of_getElem? (i := 902) (by decide +kernel), List.mem_of_getElem? (i := 903) (by decide +kernel)⟩
theorem lk_L_100 : Cond.methodLink RL 100 yX10_rate ∈ lw_tbl := List.mem_of_getElem? (i := 905) (by decide +kernel)
theorem mf_X10_rate : MF yX10_rate cX10_rate 2 (some .int) 1 := ⟨List.mem_of_getElem? (i := 908) (by decide +kernel), List.mem_of_getElem? (i := 43) (by decide +kernel), ⟨by decide +kernel, by decide +kernel⟩, by decide +kernel, by decide +kernel⟩
theorem mv_X10_rate : MV yX10_rate := ⟨List.mem_of_getElem? (i := 906) (by decide +kernel), List.mem_of_getElem? (i := 907) (by decide +kernel)⟩
theorem lk_L_104 : Cond.methodLink RL 104 yX10_logged ∈ lw_tbl := List.mem_of_getElem? (i := 909) (by decide +kernel)
theorem mf_X10_logged : MF yX10_logged cX10_logged 3 (some .int) 2 := ⟨List.mem_of_getElem? (i := 912) (by decide +kernel), List.mem_of_getElem? (i := 43) (by decide +kernel), ⟨by decide +kernel, by decide +kernel⟩, by decide +kernel, by decide +kernel⟩
theorem mv_X10_logged : MV yX10_logged := ⟨List.mem_of_getElem? (i := 910) (by decide +kernel), List.mem_of_getElem? (i := 911) (by decide +kernel)⟩
theorem lk_L_108 : Cond.methodLink RL 108 yX10_drift ∈ lw_tbl := List.mem_of_getElem? (i := 913) (by decide +kernel)
theorem mf_X10_drift : MF yX10_drift cX10_drift 18 (some .int) 1 := ⟨List.mem_of_getElem? (i := 916) (by decide +kernel), List.mem_of_getElem? (i := 43) (by decide +kernel), ⟨by decide +kernel, by decide +kernel⟩, by decide +kernel, by decide +kernel⟩
theorem mv_X10_drift : MV yX10_drift := ⟨List.mem_of_getElem? (i := 914) (by decide +kernel), List.mem_of_getElem? (i := 915) (by decide +kernel)⟩
theorem kl_X10_125 : Cond.constantLong RX10 125 (-100009) ∈ lw_tbl := List.mem_of_getElem? (i := 917) (by decide +kernel)
theorem kl_X10_127 : Cond.constantLong RX10 127 (2) ∈ lw_tbl := List.mem_of_getElem? (i := 918) (by decide +kernel)
theorem kl_X10_129 : Cond.constantLong RX10 129 (100) ∈ lw_tbl := List.mem_of_getElem? (i := 919) (by decide +kernel)
theorem lk_L_112 : Cond.methodLink RL 112 yX10_ticksTo ∈ lw_tbl := List.mem_of_getElem? (i := 920) (by decide +kernel)
theorem mf_X10_ticksTo : MF yX10_ticksTo cX10_ticksTo 2 (some .int) 1 := ⟨List.mem_of_getElem? (i := 923) (by decide +kernel), List.mem_of_getElem? (i := 43) (by decide +kernel), ⟨by decide +kernel, by decide +kernel⟩, by decide +kernel, by decide +kernel⟩
theorem mv_X10_ticksTo : MV yX10_ticksTo := ⟨List.mem_of_getElem? (i := 921) (by decide +kernel), List.mem_of_getElem? (i := 922) (by decide +kernel)⟩
theorem lk_X10_131 : Cond.methodLink RX10 131 yX10_ticksUntil ∈ lw_tbl := List.mem_of_getElem? (i := 924) (by decide +kernel)
theorem mf_X10_ticksUntil : MF yX10_ticksUntil cX10_ticksUntil 5 (some .int) 2 := ⟨List.mem_of_getElem? (i := 927) (by decide +kernel), List.mem_of_getElem? (i := 43) (by decide +kernel), ⟨by decide +kernel, by decide +kernel⟩, by decide +kernel, by decide +kernel⟩
theorem mv_X10_ticksUntil : MV yX10_ticksUntil := ⟨List.mem_of_getElem? (i := 926) (by decide +kernel), List.mem_of_getElem? (i := 29) (by decide +kernel)⟩
theorem lk_L_116 : Cond.methodLink RL 116 yX10_ticksToLoss ∈ lw_tbl := List.mem_of_getElem? (i := 928) (by decide +kernel)
theorem mf_X10_ticksToLoss : MF yX10_ticksToLoss cX10_ticksToLoss 2 (some .int) 1 := ⟨List.mem_of_getElem? (i := 931) (by decide +kernel), List.mem_of_getElem? (i := 43) (by decide +kernel), ⟨by decide +kernel, by decide +kernel⟩, by decide +kernel, by decide +kernel⟩
theorem mv_X10_ticksToLoss : MV yX10_ticksToLoss := ⟨List.mem_of_getElem? (i := 929) (by decide +kernel), List.mem_of_getElem? (i := 930) (by decide +kernel)⟩
theorem kc_X10_134 : Cond.constant RX10 134 (100000) ∈ lw_tbl := List.mem_of_getElem? (i := 932) (by decide +kernel)
theorem lk_L_120 : Cond.methodLink RL 120 yX10_bestBias ∈ lw_tbl := List.mem_of_getElem? (i := 933) (by decide +kernel)
theorem mf_X10_bestBias : MF yX10_bestBias cX10_bestBias 6 (some .int) 1 := ⟨List.mem_of_getElem? (i := 936) (by decide +kernel), List.mem_of_getElem? (i := 43) (by decide +kernel), ⟨by decide +kernel, by decide +kernel⟩, by decide +kernel, by decide +kernel⟩
theorem mv_X10_bestBias : MV yX10_bestBias := ⟨List.mem_of_getElem? (i := 934) (by decide +kernel), List.mem_of_getElem? (i := 935) (by decide +kernel)⟩
theorem lk_X10_135 : Cond.methodLink RX10 135 yX10_offWith ∈ lw_tbl := List.mem_of_getElem? (i := 937) (by decide +kernel)
theorem mf_X10_offWith : MF yX10_offWith cX10_offWith 6 (some .int) 2 := ⟨List.mem_of_getElem? (i := 940) (by decide +kernel), List.mem_of_getElem? (i := 43) (by decide +kernel), ⟨by decide +kernel, by decide +kernel⟩, by decide +kernel, by decide +kernel⟩
theorem mv_X10_offWith : MV yX10_offWith := ⟨List.mem_of_getElem? (i := 939) (by decide +kernel), List.mem_of_getElem? (i := 30) (by decide +kernel)⟩
theorem lk_copy : Cond.methodLink RX9 240 arraycopyName ∈ lw_tbl ∧ Cond.native arraycopyName ∈ lw_tbl ∧ Cond.static arraycopyName ∈ lw_tbl ∧ Cond.initialized "java/lang/System" ∈ lw_tbl := ⟨lk_X9_240, List.mem_of_getElem? (i := 403) (by decide +kernel), List.mem_of_getElem? (i := 402) (by decide +kernel), List.mem_of_getElem? (i := 44) (by decide +kernel)⟩
end
section
/-! THE ARENA: every cell that class and reference ever make stands in a GROUP (a number); a group has a type; a type says which cells it has and where, in the group's one row of ints (Nat → Int32), each int of a cell lies. The whole changing state is h : group → place → Int32; all references are fixed. -/
abbrev Hp : Type := Nat → Nat → Int32
abbrev ar_F : Type := Nat ⊕ (Nat × Nat)
abbrev ar_C : Type := (Nat × List ar_F) ⊕ ((Nat × Nat) ⊕ Unit)
/-- the cells of a type: an object (its class, its fields: an int's place, or the group, told from this one, and cell that it points to), an int array (first place, step), or the array of states -/
def ar_cell (T j : Nat) : Option ar_C := match T, j with
  | 0, 0 => some (.inl (9, [.inr (1, 0), .inr (2, 0), .inr (2, 1), .inr (3, 0), .inr (4, 0), .inr (5, 0), .inr (10, 0), .inr (7, 0), .inr (8, 0), .inr (6, 0)]))
  | 1, 0 => some (.inl (7, [.inr (1, 0), .inr (2, 0), .inr (3, 0), .inr (4, 0)]))
  | 2, 0 => some (.inl (4, [.inr (0, 1), .inr (0, 2), .inl 0, .inl 1, .inl 2, .inl 4, .inl 7, .inl 13]))
  | 2, 1 => some (.inl (5, [.inl 3, .inl 9, .inl 10, .inl 11, .inl 12, .inl 5, .inl 6, .inl 14, .inl 15, .inl 8]))
  | 2, 2 => some (.inl (0, [.inl 16, .inl 17, .inl 18, .inl 19, .inl 20, .inr (0, 3), .inl 23, .inl 24, .inl 25]))
  | 2, 3 => some (.inr (.inl (26, 1)))
  | 3, 0 => some (.inl (6, [.inr (0, 1), .inr (0, 2), .inl 0]))
  | 3, 1 => some (.inr (.inl (1, 2)))
  | 3, 2 => some (.inr (.inl (2, 2)))
  | 5, 0 => some (.inl (2, [.inr (0, 1), .inl 1, .inl 0]))
  | 5, 1 => some (.inr (.inl (2, 1)))
  | 6, 0 => some (.inl (8, [.inr (0, 1), .inl 0]))
  | 6, 1 => some (.inr (.inl (1, 1)))
  | 7, 0 => some (.inl (3, [.inr (1, 0), .inl 0]))
  | 8, 0 => some (.inl (1, [.inr (0, 1), .inl 0, .inl 1]))
  | 8, 1 => some (.inr (.inr ()))
  | 9, 0 => some (.inl (10, [.inl 0, .inr (1, 0), .inr (2, 0), .inr (3, 0), .inl 1, .inr (4, 0), .inl 2, .inl 3, .inl 4, .inr (5, 0)]))
  | 10, 0 => some (.inr (.inl (0, 1)))
  | 11, 0 => some (.inr (.inl (0, 1)))
  | 12, 0 => some (.inr (.inl (0, 1)))
  | 13, 0 => some (.inr (.inl (0, 1)))
  | _, _ => none
/-- how long the int arrays of a group are -/
def ar_n (T g : Nat) : Nat := match T with
  | 2 => 6
  | 3 => if g = 4 ∨ (11 ≤ g ∧ g % 5 = 4) then 6 else 8
  | 5 => 48
  | 6 => 100
  | 10 => 112
  | 11 => 560
  | 12 => 100
  | 13 => 16
  | _ => 0
def ar_uses (T j sl : Nat) : Bool := match ar_cell T j with
  | some (.inl q) => q.2.any (fun f => match f with | .inl k => k == sl | .inr _ => false)
  | some (.inr (.inl q)) => decide (q.1 ≤ sl) && decide ((sl - q.1) % q.2 = 0)
  | _ => false
theorem ar_j {T j : Nat} (h : ar_cell T j ≠ none) : j < 4 := by
  unfold ar_cell at h
  split at h <;> first | omega | exact absurd rfl h
theorem ar_T14 (j : Nat) : ar_cell 14 j = none := rfl
/-- the ground: the tables' class and slot numbers, the int arrays' class, the array of states' class, the groups' types, the addresses -/
abbrev Geo : Type := va_G × ClassId × ClassId × (Nat → Nat) × (Nat → Nat → Nat)
def gD (G : Geo) : va_G := G.1
def gI (G : Geo) : ClassId := G.2.1
def gS (G : Geo) : ClassId := G.2.2.1
def gT (G : Geo) : Nat → Nat := G.2.2.2.1
def gA (G : Geo) : Nat → Nat → Nat := G.2.2.2.2
def ar_f (G : Geo) (h : Hp) (g : Nat) (f : ar_F) : Value := match f with
  | .inl k => .int (h g k)
  | .inr q => .ref (gA G (g + q.1) q.2)
def ar_x (G : Geo) (h : Hp) (g : Nat) (c : Option ar_C) : va_E := match c with
  | some (.inl q) => .inr (q.1, q.2.map (ar_f G h g))
  | some (.inr (.inl q)) => .inl (gI G, ar_n (gT G g) g, .inl (fun k => h g (q.1 + q.2 * k)))
  | some (.inr (.inr _)) => .inl (gS G, 5, .inr (.inr (.inr (.inr (fun k => some (gA G (11 + 5 * k) 0))))))
  | none => .inr (0, [])
def ar_e (G : Geo) (h : Hp) (g j : Nat) : va_E := ar_x G h g (ar_cell (gT G g) j)
def ar_L (G : Geo) : List (Nat × Nat) := ((List.range 168).filter (fun n => (ar_cell (gT G (n / 4)) (n % 4)).isSome)).map (fun n => (n / 4, n % 4))
def wl (G : Geo) (h : Hp) : va_W := (ar_L G).map (fun c => (gA G c.1 c.2, ar_e G h c.1 c.2))
def GOK (G : Geo) : Prop := (∀ g j g' j' : Nat, ar_cell (gT G g) j ≠ none → ar_cell (gT G g') j' ≠ none → gA G g j = gA G g' j' → g = g' ∧ j = j') ∧ ∀ g, 42 ≤ g → gT G g = 14
theorem ar_mem {G : Geo} (hG : GOK G) {g j : Nat} (h : ar_cell (gT G g) j ≠ none) : (g, j) ∈ ar_L G := by
  have hg : g < 42 := by
    rcases Nat.lt_or_ge g 42 with q | q
    · exact q
    · rw [hG.2 g q] at h
      exact absurd (ar_T14 j) h
  have hj := ar_j h
  refine List.mem_map.mpr ⟨4 * g + j, List.mem_filter.mpr ⟨List.mem_range.mpr (by omega), ?_⟩, ?_⟩
  · rw [show (4 * g + j) / 4 = g by omega, show (4 * g + j) % 4 = j by omega]
    cases hc : ar_cell (gT G g) j with
    | none => exact absurd hc h
    | some x => rfl
  · show ((4 * g + j) / 4, (4 * g + j) % 4) = (g, j)
    rw [show (4 * g + j) / 4 = g by omega, show (4 * g + j) % 4 = j by omega]
theorem ar_mem' {G : Geo} {c : Nat × Nat} (h : c ∈ ar_L G) : ar_cell (gT G c.1) c.2 ≠ none := by
  obtain ⟨n, hn, rfl⟩ := List.mem_map.mp h
  have h1 := (List.mem_filter.mp hn).2
  intro z
  have z1 : ar_cell (gT G (n / 4)) (n % 4) = none := z
  rw [z1] at h1
  cases h1
theorem ar_nd (G : Geo) : (ar_L G).Nodup := by
  unfold ar_L
  refine List.pairwise_map.mpr ((List.nodup_range.filter _).imp (fun {a b} hne hab => hne ?_))
  have h1 : a / 4 = b / 4 := congrArg Prod.fst hab
  have h2 : a % 4 = b % 4 := congrArg Prod.snd hab
  omega
theorem wl_get {G : Geo} (hG : GOK G) (h : Hp) {g j : Nat} (hc : ar_cell (gT G g) j ≠ none) : ∃ k : Nat, (wl G h)[k]? = some (gA G g j, ar_e G h g j) := by
  apply List.getElem?_of_mem
  exact List.mem_map.mpr ⟨(g, j), ar_mem hG hc, rfl⟩
theorem wl_set {G : Geo} (hG : GOK G) {A : Nat → Prop} {h h' : Hp} (hD : va_D A (wl G h)) {g j k : Nat} {e : va_E} (hc : ar_cell (gT G g) j ≠ none) (hk : (wl G h)[k]? = some (gA G g j, ar_e G h g j)) (he : e = ar_e G h' g j) (ho : ∀ g' j' : Nat, ar_cell (gT G g') j' ≠ none → (g' = g ∧ j' = j → False) → ar_e G h' g' j' = ar_e G h g' j') : (wl G h).set k (gA G g j, e) = wl G h' := by
  subst he
  have hl := (List.getElem?_eq_some_iff.mp hk).1
  apply List.ext_getElem?
  intro i
  by_cases hi : i = k
  · subst hi
    rw [List.getElem?_set_self hl]
    simp only [wl, List.getElem?_map] at hk ⊢
    cases hb : (ar_L G)[i]? with
    | none => rw [hb] at hk; cases hk
    | some b =>
      rw [hb] at hk
      have h1 : gA G b.1 b.2 = gA G g j := congrArg Prod.fst (Option.some.inj hk)
      obtain ⟨e1, e2⟩ := hG.1 b.1 b.2 g j (ar_mem' (List.mem_of_getElem? hb)) hc h1
      show some (gA G g j, ar_e G h' g j) = some (gA G b.1 b.2, ar_e G h' b.1 b.2)
      rw [e1, e2]
  · rw [List.getElem?_set_ne (Ne.symm hi)]
    simp only [wl, List.getElem?_map]
    cases hb : (ar_L G)[i]? with
    | none => rfl
    | some b =>
      show some (gA G b.1 b.2, ar_e G h b.1 b.2) = some (gA G b.1 b.2, ar_e G h' b.1 b.2)
      rw [ho b.1 b.2 (ar_mem' (List.mem_of_getElem? hb)) (fun z => ?_)]
      have h2 : (wl G h)[i]? = some (gA G b.1 b.2, ar_e G h b.1 b.2) := by
        simp only [wl, List.getElem?_map, hb]
        rfl
      exact hi (hD.1 i k _ _ h2 hk (by rw [z.1, z.2]))
theorem ar_cong {G : Geo} {h h' : Hp} {g j : Nat} (hu : ∀ sl, ar_uses (gT G g) j sl = true → h' g sl = h g sl) : ar_e G h' g j = ar_e G h g j := by
  unfold ar_e
  unfold ar_uses at hu
  cases hc : ar_cell (gT G g) j with
  | none => rfl
  | some x =>
    rw [hc] at hu
    rcases x with q | q | q
    · show Sum.inr (q.1, q.2.map (ar_f G h' g)) = Sum.inr (q.1, q.2.map (ar_f G h g))
      congr 2
      apply List.map_congr_left
      intro f hf
      cases f with
      | inr z => rfl
      | inl k => 
        show Value.int (h' g k) = Value.int (h g k)
        rw [hu k (List.any_eq_true.mpr ⟨_, hf, by simp⟩)]
    · show Sum.inl (gI G, ar_n (gT G g) g, Sum.inl (fun k => h' g (q.1 + q.2 * k))) = Sum.inl (gI G, ar_n (gT G g) g, Sum.inl (fun k => h g (q.1 + q.2 * k)))
      congr 4
      funext k
      refine hu _ ?_
      show (decide (q.1 ≤ q.1 + q.2 * k) && decide ((q.1 + q.2 * k - q.1) % q.2 = 0)) = true
      rw [Nat.add_sub_cancel_left, Nat.mul_mod_right]
      simp
    · rfl
/-- one int written: the group's row, and the place -/
def hset (h : Hp) (g k : Nat) (v : Int32) : Hp := va_up h g (va_up (h g) k v)
theorem hset_eq (h : Hp) (g k : Nat) (v : Int32) : hset h g k v g k = v := by simp [hset, va_up]
theorem hset_ne (h : Hp) (g k : Nat) (v : Int32) {g' k' : Nat} (hn : g' = g ∧ k' = k → False) : hset h g k v g' k' = h g' k' := by
  unfold hset va_up
  by_cases h1 : g' = g
  · subst h1
    by_cases h2 : k' = k
    · exact absurd ⟨rfl, h2⟩ hn
    · simp [h2]
  · simp [h1]
/-- is a place of a type used by one cell alone, and there at one field alone -/
def ar_one (T j sl : Nat) : Bool := (List.range 4).all (fun j' => j' == j || !ar_uses T j' sl)
theorem ar_one_use {T j sl j' : Nat} (h : ar_one T j sl = true) (hn : j' ≠ j) (hc : ar_cell T j' ≠ none) : ar_uses T j' sl = false := by
  have h1 := List.all_eq_true.mp h j' (List.mem_range.mpr (ar_j hc))
  simpa [hn] using h1
theorem hset_oth {G : Geo} {h : Hp} {g j sl : Nat} {v : Int32} (h1 : ar_one (gT G g) j sl = true) (g' j' : Nat) (hc : ar_cell (gT G g') j' ≠ none) (hn : g' = g ∧ j' = j → False) : ar_e G (hset h g sl v) g' j' = ar_e G h g' j' := by
  refine ar_cong (fun s hs => hset_ne _ _ _ _ (fun z => ?_))
  obtain ⟨rfl, rfl⟩ := z
  by_cases hj : j' = j
  · exact hn ⟨rfl, hj⟩
  · rw [ar_one_use h1 hj hc] at hs
    cases hs
/-- an object's int field -/
theorem hset_obj {G : Geo} {h : Hp} {g j sl k ci : Nat} {fs : List ar_F} {v : Int32} (hc : ar_cell (gT G g) j = some (.inl (ci, fs))) (hk : fs[k]? = some (.inl sl)) (hu : (List.range fs.length).all (fun i => i == k || !decide (fs[i]? = some (.inl sl))) = true) : (.inr (ci, (fs.map (ar_f G h g)).set k (.int v)) : va_E) = ar_e G (hset h g sl v) g j := by
  unfold ar_e
  rw [hc]
  show Sum.inr (ci, (fs.map (ar_f G h g)).set k (.int v)) = Sum.inr (ci, fs.map (ar_f G (hset h g sl v) g))
  congr 2
  apply List.ext_getElem?
  intro i
  have hl := (List.getElem?_eq_some_iff.mp hk).1
  by_cases hi : i = k
  · subst hi
    rw [List.getElem?_set_self (by rw [List.length_map]; exact hl), List.getElem?_map, hk]
    show some (Value.int v) = some (Value.int (hset h g sl v g sl))
    rw [hset_eq]
  · rw [List.getElem?_set_ne (Ne.symm hi), List.getElem?_map, List.getElem?_map]
    cases hf : fs[i]? with
    | none => rfl
    | some f =>
      have hil := (List.getElem?_eq_some_iff.mp hf).1
      have h1 := List.all_eq_true.mp hu i (List.mem_range.mpr hil)
      rw [hf] at h1
      cases f with
      | inr z => rfl
      | inl s =>
        show some (Value.int (h g s)) = some (Value.int (hset h g sl v g s))
        rw [hset_ne]
        rintro ⟨-, rfl⟩
        simp [hi] at h1
/-- an array's element -/
theorem hset_arr {G : Geo} {h : Hp} {g j o t i : Nat} {v : Int32} (hc : ar_cell (gT G g) j = some (.inr (.inl (o, t)))) (ht : 0 < t) : (.inl (gI G, ar_n (gT G g) g, .inl (upd (fun k => h g (o + t * k)) i v)) : va_E) = ar_e G (hset h g (o + t * i) v) g j := by
  unfold ar_e
  rw [hc]
  show Sum.inl (gI G, ar_n (gT G g) g, Sum.inl (upd (fun k => h g (o + t * k)) i v)) = Sum.inl (gI G, ar_n (gT G g) g, Sum.inl (fun k => hset h g (o + t * i) v g (o + t * k)))
  congr 4
  funext k
  unfold upd
  by_cases hk : k = i
  · subst hk
    rw [if_pos rfl, hset_eq]
  · rw [if_neg hk, hset_ne]
    rintro ⟨-, e⟩
    exact hk (Nat.eq_of_mul_eq_mul_left ht (by omega))
theorem ar_arr_one {T j o t : Nat} (i : Nat) (hc : ar_cell T j = some (.inr (.inl (o, t)))) : 0 < t ∧ ar_one T j (o + t * i) = true := by
  unfold ar_cell at hc
  split at hc <;> first | (cases hc; done) | skip
  all_goals (cases hc; refine ⟨by decide, ?_⟩; simp [ar_one, ar_uses, ar_cell, List.range, List.range.loop]; try omega)
end
section
/-! THE JUDGEMENT: VV h pc lv st: from the place pc, with the ints h, these locals and this stack, the method comes to a state with Q. A row an instruction. -/
theorem gw_on {w : Cond} (h : gw w = true) : w.onTables = true := by
  unfold gw at h
  rw [Bool.and_eq_true] at h
  exact h.1
def GK (G : Geo) (U : State) : Prop := va_K (gD G) vwCl [(gI G, .int), (gS G, .object "RoastKeeper$State")] U ∧ ∀ w ∈ lw_tbl, gw w = true → va_Nw w U
theorem GK.use {G : Geo} {s : State} (h : GK G s) {w : Cond} (hw : w ∈ lw_tbl) (ho : gw w = true) (args : Array Value) : w.before args s = true := va_Nw.use (gw_on ho) (h.2 w hw ho)
theorem nw_warm {s U : State} (hW : s.WarmedH U.vm) {w : Cond} (ho : gw w = true) (h : va_Nw w s) : va_Nw w U := by
  have h1 := ho
  unfold gw at h1
  rw [Bool.and_eq_true] at h1
  cases hk : w.keeps with
  | true => exact word_at hW (Or.inl (by rw [h1.1, hk]; rfl)) h
  | false =>
    have h2 := h1.2
    rw [hk] at h2
    cases w <;> first | (cases h2; done) | exact va_Nw.warmM hW h
theorem GK.warm {G : Geo} {s U : State} (hW : s.WarmedH U.vm) (h : GK G s) : GK G U := ⟨va_K.moved hW.alike h.1, fun w hw ho => nw_warm hW ho (h.2 w hw ho)⟩
theorem GK.calling {G : Geo} {U : State} (g : JFrame) (mk : MethodId) (a : Array Value) (h : GK G U) : GK G (U.calling g mk a) := ⟨va_K.moved (u := U) (U := U.calling g mk a) (Vm.Alike.refl U.vm) h.1, fun w hw ho => va_Nw.same (gw_on ho) (rfl : U.vm = (U.calling g mk a).vm) (h.2 w hw ho)⟩
/-- the cells of the arena -/
def AA (G : Geo) : Nat → Prop := fun q => ∃ g j, ar_cell (gT G g) j ≠ none ∧ gA G g j = q
theorem wl_D {G : Geo} (hG : GOK G) {A : Nat → Prop} (hA : ∀ g j, ar_cell (gT G g) j ≠ none → A (gA G g j)) (hnd : (ar_L G).Nodup) (h : Hp) : va_D A (wl G h) := by
  refine ⟨fun i j x y hi hj hxy => ?_, fun k q hk => ?_⟩
  · simp only [wl, List.getElem?_map] at hi hj
    cases hb : (ar_L G)[i]? with
    | none => rw [hb] at hi; cases hi
    | some b =>
      cases hc : (ar_L G)[j]? with
      | none => rw [hc] at hj; cases hj
      | some d =>
        rw [hb] at hi
        rw [hc] at hj
        have e1 := Option.some.inj hi
        have e2 := Option.some.inj hj
        have h1 : gA G b.1 b.2 = gA G d.1 d.2 := by
          have q1 : gA G b.1 b.2 = x.1 := congrArg Prod.fst e1
          have q2 : gA G d.1 d.2 = y.1 := congrArg Prod.fst e2
          rw [q1, q2, hxy]
        obtain ⟨f1, f2⟩ := hG.1 b.1 b.2 d.1 d.2 (ar_mem' (List.mem_of_getElem? hb)) (ar_mem' (List.mem_of_getElem? hc)) h1
        have hbd : b = d := Prod.ext f1 f2
        subst hbd
        have hi2 := (List.getElem?_eq_some_iff.mp hb)
        have hj2 := (List.getElem?_eq_some_iff.mp hc)
        obtain ⟨l1, v1⟩ := hi2
        obtain ⟨l2, v2⟩ := hj2
        exact (List.getElem_inj hnd).mp (v1.trans v2.symm)
  · obtain ⟨b, hb, e⟩ := List.mem_map.mp (List.mem_of_getElem? hk)
    rw [← e]
    exact hA _ _ (ar_mem' hb)
/-- what stands for a whole method -/
def CX (G : Geo) (A : Nat → Prop) (p : Program) (s : State) (m : MethodId) (meth : Method) (c : Code) (own : String) (cc : ByteArray) (nL : Nat) : Prop :=
  p.tables.exec = Jvm.exec ∧ c.code = cc ∧ c.maxLocals = nL ∧ s.vm.findClass own = some m.cls ∧ GK G s ∧ GOK G ∧ (∀ g j, ar_cell (gT G g) j ≠ none → A (gA G g j)) ∧ meth.locks = false
def VV (G : Geo) (A : Nat → Prop) (p : Program) (l : Launch) (e : Env) (R : Room) (s : State) (m : MethodId) (args : Array Value) (below : List Frame) (meth : Method) (c : Code) (cells slots : Nat) (Q : State → Prop) (nL : Nat) (h : Hp) (pc : Nat) (lv : List (Nat × Value)) (st : List Value) : Prop :=
  ∀ (H : Heap) (locs : List Loc) (ls : Array Slot), va_P (gD G) vwCl (wl G h) H → va_S A s.heap H locs → lv_has ls nL lv → W p l e R s m args below meth c H locs cells slots Q (F0 m pc ls st)
/-- a contract: these arguments, these ints before, these behind, this answer -/
def QC (G : Geo) (h : Hp) (r : Option Value) : Array Value → State → Outcome → State → Prop := fun _ st oc t => oc = .returned r ∧ va_P (gD G) vwCl (wl G h) t.heap ∧ va_F (AA G) st t
def PC (G : Geo) (h : Hp) : State → Prop := fun U => GK G U ∧ va_P (gD G) vwCl (wl G h) U.heap
def CM (G : Geo) (l : Launch) (y : MethodName) (bytes : ByteArray) (maxL : Nat) (ret : Option FieldType) (fr lo : Nat) (av : List Value) (h h' : Hp) (r : Option Value) : Prop :=
  Met l y [.code y bytes maxL ret] { frames := fr, cells := 0, slots := 0, locals := lo } (va_Pc av (PC G h)) (QC G h' r) 0 0 (AA G)
section QR
variable {G : Geo} {A : Nat → Prop} {p : Program} {l : Launch} {e : Env} {R : Room} {s : State} {m : MethodId} {args : Array Value} {below : List Frame} {meth : Method} {c : Code} {cells slots : Nat} {Q : State → Prop} {nL : Nat}
variable {own : String} {cc : ByteArray} {h : Hp} {pc : Nat} {lv : List (Nat × Value)} {st : List Value}
theorem q_iconst (X : CX G A p s m meth c own cc nL) {n : Int} {v : Int32} (hd : decode cc pc = .ok (.iconst n, 1)) (hv : Int32.ofInt n = v) (k : VV G A p l e R s m args below meth c cells slots Q nL h (pc + 1) lv (.int v :: st)) : VV G A p l e R s m args below meth c cells slots Q nL h (pc) lv (st) := fun H locs ls hP hS hl => lv_iconst X.1 X.2.1 hd hv (k H locs ls hP hS hl)
theorem q_bipush (X : CX G A p s m meth c own cc nL) {n : Int} {v : Int32} (hd : decode cc pc = .ok (.bipush n, 2)) (hv : (Int8.ofInt n).toInt32 = v) (k : VV G A p l e R s m args below meth c cells slots Q nL h (pc + 2) lv (.int v :: st)) : VV G A p l e R s m args below meth c cells slots Q nL h (pc) lv (st) := fun H locs ls hP hS hl => lv_bipush X.1 X.2.1 hd hv (k H locs ls hP hS hl)
theorem q_sipush (X : CX G A p s m meth c own cc nL) {n : Int} {v : Int32} (hd : decode cc pc = .ok (.sipush n, 3)) (hv : (Int16.ofInt n).toInt32 = v) (k : VV G A p l e R s m args below meth c cells slots Q nL h (pc + 3) lv (.int v :: st)) : VV G A p l e R s m args below meth c cells slots Q nL h (pc) lv (st) := fun H locs ls hP hS hl => lv_sipush X.1 X.2.1 hd hv (k H locs ls hP hS hl)
theorem q_lconst (X : CX G A p s m meth c own cc nL) {n : Fin 2} {v : Int64} (hd : decode cc pc = .ok (.lconst n, 1)) (hv : Int64.ofNat (n : Nat) = v) (k : VV G A p l e R s m args below meth c cells slots Q nL h (pc + 1) lv (.long v :: st)) : VV G A p l e R s m args below meth c cells slots Q nL h (pc) lv (st) := fun H locs ls hP hS hl => lv_lconst X.1 X.2.1 hd hv (k H locs ls hP hS hl)
theorem q_ldc (X : CX G A p s m meth c own cc nL) {index : Nat} {v : Int32} (hw : Cond.constant own index v ∈ lw_tbl) (hd : decode cc pc = .ok (.ldc index, 2)) (k : VV G A p l e R s m args below meth c cells slots Q nL h (pc + 2) lv (.int v :: st)) : VV G A p l e R s m args below meth c cells slots Q nL h (pc) lv (st) := fun H locs ls hP hS hl => lv_ldc X.1 X.2.1 X.2.2.2.1 (X.2.2.2.2.1.use hw rfl args) hd (k H locs ls hP hS hl)
theorem q_ldc2 (X : CX G A p s m meth c own cc nL) {index : Nat} {v : Int64} (hw : Cond.constantLong own index v ∈ lw_tbl) (hd : decode cc pc = .ok (.ldc2_w index, 3)) (k : VV G A p l e R s m args below meth c cells slots Q nL h (pc + 3) lv (.long v :: st)) : VV G A p l e R s m args below meth c cells slots Q nL h (pc) lv (st) := fun H locs ls hP hS hl => lv_ldc2 X.1 X.2.1 X.2.2.2.1 (X.2.2.2.2.1.use hw rfl args) hd (k H locs ls hP hS hl)
theorem q_null (X : CX G A p s m meth c own cc nL)  (hd : decode cc pc = .ok (.aconst_null, 1)) (k : VV G A p l e R s m args below meth c cells slots Q nL h (pc + 1) lv (.null :: st)) : VV G A p l e R s m args below meth c cells slots Q nL h (pc) lv (st) := fun H locs ls hP hS hl => lv_null X.1 X.2.1 hd (k H locs ls hP hS hl)
theorem q_iload_n (X : CX G A p s m meth c own cc nL) {i : Fin 4} (q : Nat) {x : Int32} (hd : decode cc pc = .ok (.iload_n i, 1)) (hq : lv[q]? = some ((i : Nat), .int x)) (k : VV G A p l e R s m args below meth c cells slots Q nL h (pc + 1) lv (.int x :: st)) : VV G A p l e R s m args below meth c cells slots Q nL h (pc) lv (st) := fun H locs ls hP hS hl => lv_iload_n X.1 X.2.1 hd rfl (lv_at hl q hq) (k H locs ls hP hS hl)
theorem q_iload (X : CX G A p s m meth c own cc nL) {i : Nat} (q : Nat) {x : Int32} (hd : decode cc pc = .ok (.iload i, 2)) (hq : lv[q]? = some (i, .int x)) (k : VV G A p l e R s m args below meth c cells slots Q nL h (pc + 2) lv (.int x :: st)) : VV G A p l e R s m args below meth c cells slots Q nL h (pc) lv (st) := fun H locs ls hP hS hl => lv_iload X.1 X.2.1 hd (lv_at hl q hq) (k H locs ls hP hS hl)
theorem q_istore_n (X : CX G A p s m meth c own cc nL) {i : Fin 4} {x : Int32} {lv' : List (Nat × Value)} (hd : decode cc pc = .ok (.istore_n i, 1)) (hn : (i : Nat) < nL) (hv : ((i : Nat), Value.int x) :: lv.filter (fun q => !(q.1 == (i : Nat)) && !(q.1 + 1 == (i : Nat) && q.2.category == 2)) = lv') (k : VV G A p l e R s m args below meth c cells slots Q nL h (pc + 1) lv' (st)) : VV G A p l e R s m args below meth c cells slots Q nL h (pc) lv (.int x :: st) := fun H locs ls hP hS hl => lv_istore_n X.1 X.2.1 hd rfl hl hn hv (fun ls hl => k H locs ls hP hS hl)
theorem q_istore (X : CX G A p s m meth c own cc nL) {i : Nat} {x : Int32} {lv' : List (Nat × Value)} (hd : decode cc pc = .ok (.istore i, 2)) (hn : i < nL) (hv : (i, Value.int x) :: lv.filter (fun q => !(q.1 == i) && !(q.1 + 1 == i && q.2.category == 2)) = lv') (k : VV G A p l e R s m args below meth c cells slots Q nL h (pc + 2) lv' (st)) : VV G A p l e R s m args below meth c cells slots Q nL h (pc) lv (.int x :: st) := fun H locs ls hP hS hl => lv_istore X.1 X.2.1 hd hl hn hv (fun ls hl => k H locs ls hP hS hl)
theorem q_lload_n (X : CX G A p s m meth c own cc nL) {i : Fin 4} (q : Nat) {x : Int64} (hd : decode cc pc = .ok (.lload_n i, 1)) (hq : lv[q]? = some ((i : Nat), .long x)) (k : VV G A p l e R s m args below meth c cells slots Q nL h (pc + 1) lv (.long x :: st)) : VV G A p l e R s m args below meth c cells slots Q nL h (pc) lv (st) := fun H locs ls hP hS hl => lv_lload_n X.1 X.2.1 hd rfl (lv_at hl q hq) (k H locs ls hP hS hl)
theorem q_lload (X : CX G A p s m meth c own cc nL) {i : Nat} (q : Nat) {x : Int64} (hd : decode cc pc = .ok (.lload i, 2)) (hq : lv[q]? = some (i, .long x)) (k : VV G A p l e R s m args below meth c cells slots Q nL h (pc + 2) lv (.long x :: st)) : VV G A p l e R s m args below meth c cells slots Q nL h (pc) lv (st) := fun H locs ls hP hS hl => lv_lload X.1 X.2.1 hd (lv_at hl q hq) (k H locs ls hP hS hl)
theorem q_lstore_n (X : CX G A p s m meth c own cc nL) {i : Fin 4} {x : Int64} {lv' : List (Nat × Value)} (hd : decode cc pc = .ok (.lstore_n i, 1)) (hn : (i : Nat) + 1 < nL) (hv : ((i : Nat), Value.long x) :: lv.filter (fun q => !(q.1 == (i : Nat)) && (!(q.1 == (i : Nat) + 1) && !(q.1 + 1 == (i : Nat) && q.2.category == 2))) = lv') (k : VV G A p l e R s m args below meth c cells slots Q nL h (pc + 1) lv' (st)) : VV G A p l e R s m args below meth c cells slots Q nL h (pc) lv (.long x :: st) := fun H locs ls hP hS hl => lv_lstore_n X.1 X.2.1 hd rfl hl hn hv (fun ls hl => k H locs ls hP hS hl)
theorem q_lstore (X : CX G A p s m meth c own cc nL) {i : Nat} {x : Int64} {lv' : List (Nat × Value)} (hd : decode cc pc = .ok (.lstore i, 2)) (hn : i + 1 < nL) (hv : (i, Value.long x) :: lv.filter (fun q => !(q.1 == i) && (!(q.1 == i + 1) && !(q.1 + 1 == i && q.2.category == 2))) = lv') (k : VV G A p l e R s m args below meth c cells slots Q nL h (pc + 2) lv' (st)) : VV G A p l e R s m args below meth c cells slots Q nL h (pc) lv (.long x :: st) := fun H locs ls hP hS hl => lv_lstore X.1 X.2.1 hd hl hn hv (fun ls hl => k H locs ls hP hS hl)
theorem q_aload_n (X : CX G A p s m meth c own cc nL) {i : Fin 4} (q : Nat) {x : Nat} (hd : decode cc pc = .ok (.aload_n i, 1)) (hq : lv[q]? = some ((i : Nat), .ref x)) (k : VV G A p l e R s m args below meth c cells slots Q nL h (pc + 1) lv (.ref x :: st)) : VV G A p l e R s m args below meth c cells slots Q nL h (pc) lv (st) := fun H locs ls hP hS hl => lv_aload_n X.1 X.2.1 hd rfl (lv_at hl q hq) (k H locs ls hP hS hl)
theorem q_aload (X : CX G A p s m meth c own cc nL) {i : Nat} (q : Nat) {x : Nat} (hd : decode cc pc = .ok (.aload i, 2)) (hq : lv[q]? = some (i, .ref x)) (k : VV G A p l e R s m args below meth c cells slots Q nL h (pc + 2) lv (.ref x :: st)) : VV G A p l e R s m args below meth c cells slots Q nL h (pc) lv (st) := fun H locs ls hP hS hl => lv_aload X.1 X.2.1 hd (lv_at hl q hq) (k H locs ls hP hS hl)
theorem q_astore_n (X : CX G A p s m meth c own cc nL) {i : Fin 4} {x : Nat} {lv' : List (Nat × Value)} (hd : decode cc pc = .ok (.astore_n i, 1)) (hn : (i : Nat) < nL) (hv : ((i : Nat), Value.ref x) :: lv.filter (fun q => !(q.1 == (i : Nat)) && !(q.1 + 1 == (i : Nat) && q.2.category == 2)) = lv') (k : VV G A p l e R s m args below meth c cells slots Q nL h (pc + 1) lv' (st)) : VV G A p l e R s m args below meth c cells slots Q nL h (pc) lv (.ref x :: st) := fun H locs ls hP hS hl => lv_astore_n X.1 X.2.1 hd rfl hl hn hv (fun ls hl => k H locs ls hP hS hl)
theorem q_astore (X : CX G A p s m meth c own cc nL) {i : Nat} {x : Nat} {lv' : List (Nat × Value)} (hd : decode cc pc = .ok (.astore i, 2)) (hn : i < nL) (hv : (i, Value.ref x) :: lv.filter (fun q => !(q.1 == i) && !(q.1 + 1 == i && q.2.category == 2)) = lv') (k : VV G A p l e R s m args below meth c cells slots Q nL h (pc + 2) lv' (st)) : VV G A p l e R s m args below meth c cells slots Q nL h (pc) lv (.ref x :: st) := fun H locs ls hP hS hl => lv_astore X.1 X.2.1 hd hl hn hv (fun ls hl => k H locs ls hP hS hl)
theorem q_iinc (X : CX G A p s m meth c own cc nL) {i : Nat} (q : Nat) {n : Int} {x v : Int32} {lv' : List (Nat × Value)} (hd : decode cc pc = .ok (.iinc i n, 3)) (hq : lv[q]? = some (i, .int x)) (hx : x + Int32.ofInt n = v) (hn : i < nL) (hv : (i, Value.int v) :: lv.filter (fun q => !(q.1 == i) && !(q.1 + 1 == i && q.2.category == 2)) = lv') (k : VV G A p l e R s m args below meth c cells slots Q nL h (pc + 3) lv' (st)) : VV G A p l e R s m args below meth c cells slots Q nL h (pc) lv (st) := fun H locs ls hP hS hl => lv_iinc X.1 X.2.1 hd hl hq hx hn hv (fun ls hl => k H locs ls hP hS hl)
theorem q_iadd (X : CX G A p s m meth c own cc nL) {x y : Int32} (hd : decode cc pc = .ok (.iadd, 1)) (k : VV G A p l e R s m args below meth c cells slots Q nL h (pc + 1) lv (.int (x + y) :: st)) : VV G A p l e R s m args below meth c cells slots Q nL h (pc) lv (.int y :: .int x :: st) := fun H locs ls hP hS hl => lv_iadd X.1 X.2.1 hd (k H locs ls hP hS hl)
theorem q_isub (X : CX G A p s m meth c own cc nL) {x y : Int32} (hd : decode cc pc = .ok (.isub, 1)) (k : VV G A p l e R s m args below meth c cells slots Q nL h (pc + 1) lv (.int (x - y) :: st)) : VV G A p l e R s m args below meth c cells slots Q nL h (pc) lv (.int y :: .int x :: st) := fun H locs ls hP hS hl => lv_isub X.1 X.2.1 hd (k H locs ls hP hS hl)
theorem q_imul (X : CX G A p s m meth c own cc nL) {x y : Int32} (hd : decode cc pc = .ok (.imul, 1)) (k : VV G A p l e R s m args below meth c cells slots Q nL h (pc + 1) lv (.int (x * y) :: st)) : VV G A p l e R s m args below meth c cells slots Q nL h (pc) lv (.int y :: .int x :: st) := fun H locs ls hP hS hl => lv_imul X.1 X.2.1 hd (k H locs ls hP hS hl)
theorem q_ixor (X : CX G A p s m meth c own cc nL) {x y : Int32} (hd : decode cc pc = .ok (.ixor, 1)) (k : VV G A p l e R s m args below meth c cells slots Q nL h (pc + 1) lv (.int (x ^^^ y) :: st)) : VV G A p l e R s m args below meth c cells slots Q nL h (pc) lv (.int y :: .int x :: st) := fun H locs ls hP hS hl => lv_ixor X.1 X.2.1 hd (k H locs ls hP hS hl)
theorem q_iand (X : CX G A p s m meth c own cc nL) {x y : Int32} (hd : decode cc pc = .ok (.iand, 1)) (k : VV G A p l e R s m args below meth c cells slots Q nL h (pc + 1) lv (.int (x &&& y) :: st)) : VV G A p l e R s m args below meth c cells slots Q nL h (pc) lv (.int y :: .int x :: st) := fun H locs ls hP hS hl => lv_iand X.1 X.2.1 hd (k H locs ls hP hS hl)
theorem q_ladd (X : CX G A p s m meth c own cc nL) {x y : Int64} (hd : decode cc pc = .ok (.ladd, 1)) (k : VV G A p l e R s m args below meth c cells slots Q nL h (pc + 1) lv (.long (x + y) :: st)) : VV G A p l e R s m args below meth c cells slots Q nL h (pc) lv (.long y :: .long x :: st) := fun H locs ls hP hS hl => lv_ladd X.1 X.2.1 hd (k H locs ls hP hS hl)
theorem q_lsub (X : CX G A p s m meth c own cc nL) {x y : Int64} (hd : decode cc pc = .ok (.lsub, 1)) (k : VV G A p l e R s m args below meth c cells slots Q nL h (pc + 1) lv (.long (x - y) :: st)) : VV G A p l e R s m args below meth c cells slots Q nL h (pc) lv (.long y :: .long x :: st) := fun H locs ls hP hS hl => lv_lsub X.1 X.2.1 hd (k H locs ls hP hS hl)
theorem q_lmul (X : CX G A p s m meth c own cc nL) {x y : Int64} (hd : decode cc pc = .ok (.lmul, 1)) (k : VV G A p l e R s m args below meth c cells slots Q nL h (pc + 1) lv (.long (x * y) :: st)) : VV G A p l e R s m args below meth c cells slots Q nL h (pc) lv (.long y :: .long x :: st) := fun H locs ls hP hS hl => lv_lmul X.1 X.2.1 hd (k H locs ls hP hS hl)
theorem q_lxor (X : CX G A p s m meth c own cc nL) {x y : Int64} (hd : decode cc pc = .ok (.lxor, 1)) (k : VV G A p l e R s m args below meth c cells slots Q nL h (pc + 1) lv (.long (x ^^^ y) :: st)) : VV G A p l e R s m args below meth c cells slots Q nL h (pc) lv (.long y :: .long x :: st) := fun H locs ls hP hS hl => lv_lxor X.1 X.2.1 hd (k H locs ls hP hS hl)
theorem q_idiv (X : CX G A p s m meth c own cc nL) {x y : Int32} (hd : decode cc pc = .ok (.idiv, 1)) (hne : ¬ y = 0) (k : VV G A p l e R s m args below meth c cells slots Q nL h (pc + 1) lv (.int (x / y) :: st)) : VV G A p l e R s m args below meth c cells slots Q nL h (pc) lv (.int y :: .int x :: st) := fun H locs ls hP hS hl => lv_idiv X.1 X.2.1 hd hne (k H locs ls hP hS hl)
theorem q_irem (X : CX G A p s m meth c own cc nL) {x y : Int32} (hd : decode cc pc = .ok (.irem, 1)) (hne : ¬ y = 0) (k : VV G A p l e R s m args below meth c cells slots Q nL h (pc + 1) lv (.int (x - x / y * y) :: st)) : VV G A p l e R s m args below meth c cells slots Q nL h (pc) lv (.int y :: .int x :: st) := fun H locs ls hP hS hl => lv_irem X.1 X.2.1 hd hne (k H locs ls hP hS hl)
theorem q_ldiv (X : CX G A p s m meth c own cc nL) {x y : Int64} (hd : decode cc pc = .ok (.ldiv, 1)) (hne : ¬ y = 0) (k : VV G A p l e R s m args below meth c cells slots Q nL h (pc + 1) lv (.long (x / y) :: st)) : VV G A p l e R s m args below meth c cells slots Q nL h (pc) lv (.long y :: .long x :: st) := fun H locs ls hP hS hl => lv_ldiv X.1 X.2.1 hd hne (k H locs ls hP hS hl)
theorem q_lrem (X : CX G A p s m meth c own cc nL) {x y : Int64} (hd : decode cc pc = .ok (.lrem, 1)) (hne : ¬ y = 0) (k : VV G A p l e R s m args below meth c cells slots Q nL h (pc + 1) lv (.long (x - x / y * y) :: st)) : VV G A p l e R s m args below meth c cells slots Q nL h (pc) lv (.long y :: .long x :: st) := fun H locs ls hP hS hl => lv_lrem X.1 X.2.1 hd hne (k H locs ls hP hS hl)
theorem q_ineg (X : CX G A p s m meth c own cc nL) {x : Int32} (hd : decode cc pc = .ok (.ineg, 1)) (k : VV G A p l e R s m args below meth c cells slots Q nL h (pc + 1) lv (.int (-x) :: st)) : VV G A p l e R s m args below meth c cells slots Q nL h (pc) lv (.int x :: st) := fun H locs ls hP hS hl => lv_ineg X.1 X.2.1 hd (k H locs ls hP hS hl)
theorem q_i2l (X : CX G A p s m meth c own cc nL) {x : Int32} (hd : decode cc pc = .ok (.i2l, 1)) (k : VV G A p l e R s m args below meth c cells slots Q nL h (pc + 1) lv (.long x.toInt64 :: st)) : VV G A p l e R s m args below meth c cells slots Q nL h (pc) lv (.int x :: st) := fun H locs ls hP hS hl => lv_i2l X.1 X.2.1 hd rfl (k H locs ls hP hS hl)
theorem q_l2i (X : CX G A p s m meth c own cc nL) {x : Int64} (hd : decode cc pc = .ok (.l2i, 1)) (k : VV G A p l e R s m args below meth c cells slots Q nL h (pc + 1) lv (.int x.toInt32 :: st)) : VV G A p l e R s m args below meth c cells slots Q nL h (pc) lv (.long x :: st) := fun H locs ls hP hS hl => lv_l2i X.1 X.2.1 hd rfl (k H locs ls hP hS hl)
theorem q_lcmp (X : CX G A p s m meth c own cc nL) {x y : Int64} (hd : decode cc pc = .ok (.lcmp, 1)) (k : VV G A p l e R s m args below meth c cells slots Q nL h (pc + 1) lv (.int (lg_cmp x y) :: st)) : VV G A p l e R s m args below meth c cells slots Q nL h (pc) lv (.long y :: .long x :: st) := fun H locs ls hP hS hl => W.lcmp X.1 X.2.1 hd (k H locs ls hP hS hl)
theorem q_dup (X : CX G A p s m meth c own cc nL) {v : Value} (hd : decode cc pc = .ok (.dup, 1)) (h1 : v.category = 1) (k : VV G A p l e R s m args below meth c cells slots Q nL h (pc + 1) lv (v :: v :: st)) : VV G A p l e R s m args below meth c cells slots Q nL h (pc) lv (v :: st) := fun H locs ls hP hS hl => lv_dup X.1 X.2.1 hd h1 (k H locs ls hP hS hl)
theorem q_pop (X : CX G A p s m meth c own cc nL) {v : Value} (hd : decode cc pc = .ok (.pop, 1)) (h1 : v.category = 1) (k : VV G A p l e R s m args below meth c cells slots Q nL h (pc + 1) lv (st)) : VV G A p l e R s m args below meth c cells slots Q nL h (pc) lv (v :: st) := fun H locs ls hP hS hl => lv_pop X.1 X.2.1 hd h1 (k H locs ls hP hS hl)
theorem q_dup_x1 (X : CX G A p s m meth c own cc nL) {v w : Value} (hd : decode cc pc = .ok (.dup_x1, 1)) (h1 : v.category = 1) (h2 : w.category = 1) (k : VV G A p l e R s m args below meth c cells slots Q nL h (pc + 1) lv (v :: w :: v :: st)) : VV G A p l e R s m args below meth c cells slots Q nL h (pc) lv (v :: w :: st) := fun H locs ls hP hS hl => lv_dup_x1 X.1 X.2.1 hd h1 h2 (k H locs ls hP hS hl)
theorem q_dup2 (X : CX G A p s m meth c own cc nL) {v w : Value} (hd : decode cc pc = .ok (.dup2, 1)) (h1 : v.category = 1) (h2 : w.category = 1) (k : VV G A p l e R s m args below meth c cells slots Q nL h (pc + 1) lv (v :: w :: v :: w :: st)) : VV G A p l e R s m args below meth c cells slots Q nL h (pc) lv (v :: w :: st) := fun H locs ls hP hS hl => lv_dup2_11 X.1 X.2.1 hd h1 h2 (k H locs ls hP hS hl)
theorem q_if_eq (X : CX G A p s m meth c own cc nL) {x : Int32} {off : Int} {tgt : Nat} (hd : decode cc pc = .ok (.ifCond .eq off, 3)) (ht : (pc : Int) + off = (tgt : Int)) (kt : x = 0 → VV G A p l e R s m args below meth c cells slots Q nL h (tgt) lv (st)) (kf : ¬ x = 0 → VV G A p l e R s m args below meth c cells slots Q nL h (pc + 3) lv (st)) : VV G A p l e R s m args below meth c cells slots Q nL h (pc) lv (.int x :: st) := fun H locs ls hP hS hl => lv_if_eq X.1 X.2.1 hd ht (fun q => kt q H locs ls hP hS hl) (fun q => kf q H locs ls hP hS hl)
theorem q_icmp_eq (X : CX G A p s m meth c own cc nL) {x y : Int32} {off : Int} {tgt : Nat} (hd : decode cc pc = .ok (.if_icmp .eq off, 3)) (ht : (pc : Int) + off = (tgt : Int)) (kt : x = y → VV G A p l e R s m args below meth c cells slots Q nL h (tgt) lv (st)) (kf : ¬ x = y → VV G A p l e R s m args below meth c cells slots Q nL h (pc + 3) lv (st)) : VV G A p l e R s m args below meth c cells slots Q nL h (pc) lv (.int y :: .int x :: st) := fun H locs ls hP hS hl => lv_icmp_eq X.1 X.2.1 hd ht (fun q => kt q H locs ls hP hS hl) (fun q => kf q H locs ls hP hS hl)
theorem q_if_ne (X : CX G A p s m meth c own cc nL) {x : Int32} {off : Int} {tgt : Nat} (hd : decode cc pc = .ok (.ifCond .ne off, 3)) (ht : (pc : Int) + off = (tgt : Int)) (kt : ¬ x = 0 → VV G A p l e R s m args below meth c cells slots Q nL h (tgt) lv (st)) (kf : x = 0 → VV G A p l e R s m args below meth c cells slots Q nL h (pc + 3) lv (st)) : VV G A p l e R s m args below meth c cells slots Q nL h (pc) lv (.int x :: st) := fun H locs ls hP hS hl => lv_if_ne X.1 X.2.1 hd ht (fun q => kt q H locs ls hP hS hl) (fun q => kf q H locs ls hP hS hl)
theorem q_icmp_ne (X : CX G A p s m meth c own cc nL) {x y : Int32} {off : Int} {tgt : Nat} (hd : decode cc pc = .ok (.if_icmp .ne off, 3)) (ht : (pc : Int) + off = (tgt : Int)) (kt : ¬ x = y → VV G A p l e R s m args below meth c cells slots Q nL h (tgt) lv (st)) (kf : x = y → VV G A p l e R s m args below meth c cells slots Q nL h (pc + 3) lv (st)) : VV G A p l e R s m args below meth c cells slots Q nL h (pc) lv (.int y :: .int x :: st) := fun H locs ls hP hS hl => lv_icmp_ne X.1 X.2.1 hd ht (fun q => kt q H locs ls hP hS hl) (fun q => kf q H locs ls hP hS hl)
theorem q_if_lt (X : CX G A p s m meth c own cc nL) {x : Int32} {off : Int} {tgt : Nat} (hd : decode cc pc = .ok (.ifCond .lt off, 3)) (ht : (pc : Int) + off = (tgt : Int)) (kt : x < 0 → VV G A p l e R s m args below meth c cells slots Q nL h (tgt) lv (st)) (kf : ¬ x < 0 → VV G A p l e R s m args below meth c cells slots Q nL h (pc + 3) lv (st)) : VV G A p l e R s m args below meth c cells slots Q nL h (pc) lv (.int x :: st) := fun H locs ls hP hS hl => lv_if_lt X.1 X.2.1 hd ht (fun q => kt q H locs ls hP hS hl) (fun q => kf q H locs ls hP hS hl)
theorem q_icmp_lt (X : CX G A p s m meth c own cc nL) {x y : Int32} {off : Int} {tgt : Nat} (hd : decode cc pc = .ok (.if_icmp .lt off, 3)) (ht : (pc : Int) + off = (tgt : Int)) (kt : x < y → VV G A p l e R s m args below meth c cells slots Q nL h (tgt) lv (st)) (kf : ¬ x < y → VV G A p l e R s m args below meth c cells slots Q nL h (pc + 3) lv (st)) : VV G A p l e R s m args below meth c cells slots Q nL h (pc) lv (.int y :: .int x :: st) := fun H locs ls hP hS hl => lv_icmp_lt X.1 X.2.1 hd ht (fun q => kt q H locs ls hP hS hl) (fun q => kf q H locs ls hP hS hl)
theorem q_if_ge (X : CX G A p s m meth c own cc nL) {x : Int32} {off : Int} {tgt : Nat} (hd : decode cc pc = .ok (.ifCond .ge off, 3)) (ht : (pc : Int) + off = (tgt : Int)) (kt : 0 ≤ x → VV G A p l e R s m args below meth c cells slots Q nL h (tgt) lv (st)) (kf : ¬ 0 ≤ x → VV G A p l e R s m args below meth c cells slots Q nL h (pc + 3) lv (st)) : VV G A p l e R s m args below meth c cells slots Q nL h (pc) lv (.int x :: st) := fun H locs ls hP hS hl => lv_if_ge X.1 X.2.1 hd ht (fun q => kt q H locs ls hP hS hl) (fun q => kf q H locs ls hP hS hl)
theorem q_icmp_ge (X : CX G A p s m meth c own cc nL) {x y : Int32} {off : Int} {tgt : Nat} (hd : decode cc pc = .ok (.if_icmp .ge off, 3)) (ht : (pc : Int) + off = (tgt : Int)) (kt : y ≤ x → VV G A p l e R s m args below meth c cells slots Q nL h (tgt) lv (st)) (kf : ¬ y ≤ x → VV G A p l e R s m args below meth c cells slots Q nL h (pc + 3) lv (st)) : VV G A p l e R s m args below meth c cells slots Q nL h (pc) lv (.int y :: .int x :: st) := fun H locs ls hP hS hl => lv_icmp_ge X.1 X.2.1 hd ht (fun q => kt q H locs ls hP hS hl) (fun q => kf q H locs ls hP hS hl)
theorem q_if_gt (X : CX G A p s m meth c own cc nL) {x : Int32} {off : Int} {tgt : Nat} (hd : decode cc pc = .ok (.ifCond .gt off, 3)) (ht : (pc : Int) + off = (tgt : Int)) (kt : 0 < x → VV G A p l e R s m args below meth c cells slots Q nL h (tgt) lv (st)) (kf : ¬ 0 < x → VV G A p l e R s m args below meth c cells slots Q nL h (pc + 3) lv (st)) : VV G A p l e R s m args below meth c cells slots Q nL h (pc) lv (.int x :: st) := fun H locs ls hP hS hl => lv_if_gt X.1 X.2.1 hd ht (fun q => kt q H locs ls hP hS hl) (fun q => kf q H locs ls hP hS hl)
theorem q_icmp_gt (X : CX G A p s m meth c own cc nL) {x y : Int32} {off : Int} {tgt : Nat} (hd : decode cc pc = .ok (.if_icmp .gt off, 3)) (ht : (pc : Int) + off = (tgt : Int)) (kt : y < x → VV G A p l e R s m args below meth c cells slots Q nL h (tgt) lv (st)) (kf : ¬ y < x → VV G A p l e R s m args below meth c cells slots Q nL h (pc + 3) lv (st)) : VV G A p l e R s m args below meth c cells slots Q nL h (pc) lv (.int y :: .int x :: st) := fun H locs ls hP hS hl => lv_icmp_gt X.1 X.2.1 hd ht (fun q => kt q H locs ls hP hS hl) (fun q => kf q H locs ls hP hS hl)
theorem q_if_le (X : CX G A p s m meth c own cc nL) {x : Int32} {off : Int} {tgt : Nat} (hd : decode cc pc = .ok (.ifCond .le off, 3)) (ht : (pc : Int) + off = (tgt : Int)) (kt : x ≤ 0 → VV G A p l e R s m args below meth c cells slots Q nL h (tgt) lv (st)) (kf : ¬ x ≤ 0 → VV G A p l e R s m args below meth c cells slots Q nL h (pc + 3) lv (st)) : VV G A p l e R s m args below meth c cells slots Q nL h (pc) lv (.int x :: st) := fun H locs ls hP hS hl => lv_if_le X.1 X.2.1 hd ht (fun q => kt q H locs ls hP hS hl) (fun q => kf q H locs ls hP hS hl)
theorem q_icmp_le (X : CX G A p s m meth c own cc nL) {x y : Int32} {off : Int} {tgt : Nat} (hd : decode cc pc = .ok (.if_icmp .le off, 3)) (ht : (pc : Int) + off = (tgt : Int)) (kt : x ≤ y → VV G A p l e R s m args below meth c cells slots Q nL h (tgt) lv (st)) (kf : ¬ x ≤ y → VV G A p l e R s m args below meth c cells slots Q nL h (pc + 3) lv (st)) : VV G A p l e R s m args below meth c cells slots Q nL h (pc) lv (.int y :: .int x :: st) := fun H locs ls hP hS hl => lv_icmp_le X.1 X.2.1 hd ht (fun q => kt q H locs ls hP hS hl) (fun q => kf q H locs ls hP hS hl)
theorem q_goto (X : CX G A p s m meth c own cc nL) {off : Int} {tgt : Nat} (hd : decode cc pc = .ok (.goto off, 3)) (ht : (pc : Int) + off = (tgt : Int)) (k : VV G A p l e R s m args below meth c cells slots Q nL h (tgt) lv (st)) : VV G A p l e R s m args below meth c cells slots Q nL h (pc) lv (st) := fun H locs ls hP hS hl => lv_goto X.1 X.2.1 hd ht (k H locs ls hP hS hl)
theorem q_ifnull (X : CX G A p s m meth c own cc nL) {x : Nat} {off : Int} (hd : decode cc pc = .ok (.ifnull off, 3)) (k : VV G A p l e R s m args below meth c cells slots Q nL h (pc + 3) lv (st)) : VV G A p l e R s m args below meth c cells slots Q nL h (pc) lv (.ref x :: st) := fun H locs ls hP hS hl => lv_ifnull X.1 X.2.1 hd (k H locs ls hP hS hl)
theorem q_ifnullN (X : CX G A p s m meth c own cc nL) {off : Int} {tgt : Nat} (hd : decode cc pc = .ok (.ifnull off, 3)) (ht : (pc : Int) + off = (tgt : Int)) (k : VV G A p l e R s m args below meth c cells slots Q nL h (tgt) lv (st)) : VV G A p l e R s m args below meth c cells slots Q nL h (pc) lv (.null :: st) := fun H locs ls hP hS hl => lv_ifnullN X.1 X.2.1 hd ht (k H locs ls hP hS hl)
theorem q_tabIn (X : CX G A p s m meth c own cc nL) {dflt lo hi : Int} {offs : Array Int} {len : Nat} {x : Int32} {off : Int} {tgt : Nat} (hd : decode cc pc = .ok (.tableswitch dflt lo hi offs, len)) (h1 : ¬ x.toInt < lo) (h2 : ¬ hi < x.toInt) (ho : offs[(x.toInt - lo).toNat]? = some off) (ht : (pc : Int) + off = (tgt : Int)) (k : VV G A p l e R s m args below meth c cells slots Q nL h (tgt) lv (st)) : VV G A p l e R s m args below meth c cells slots Q nL h (pc) lv (.int x :: st) := fun H locs ls hP hS hl => lv_tableIn X.1 X.2.1 hd h1 h2 ho ht (k H locs ls hP hS hl)
theorem q_tabOut (X : CX G A p s m meth c own cc nL) {dflt lo hi : Int} {offs : Array Int} {len : Nat} {x : Int32} {tgt : Nat} (hd : decode cc pc = .ok (.tableswitch dflt lo hi offs, len)) (h1 : x.toInt < lo ∨ hi < x.toInt) (ht : (pc : Int) + dflt = (tgt : Int)) (k : VV G A p l e R s m args below meth c cells slots Q nL h (tgt) lv (st)) : VV G A p l e R s m args below meth c cells slots Q nL h (pc) lv (.int x :: st) := fun H locs ls hP hS hl => lv_tableOut X.1 X.2.1 hd h1 ht (k H locs ls hP hS hl)
theorem q_look (X : CX G A p s m meth c own cc nL) {dflt : Int} {ps : Array (Int × Int)} {len : Nat} {x : Int32} {off : Int} {tgt : Nat} (hd : decode cc pc = .ok (.lookupswitch dflt ps, len)) (hp : (ps.toList.zip (ps.toList.drop 1)).all (fun (a, next) => a.1 < next.1) = true) (ho : Op.lookupswitch.offset ps.toList dflt x.toInt = off) (ht : (pc : Int) + off = (tgt : Int)) (k : VV G A p l e R s m args below meth c cells slots Q nL h (tgt) lv (st)) : VV G A p l e R s m args below meth c cells slots Q nL h (pc) lv (.int x :: st) := fun H locs ls hP hS hl => lv_lookup X.1 X.2.1 hd hp ho ht (k H locs ls hP hS hl)
theorem q_eq {h2 : Hp} {st2 : List Value} (e1 : h = h2) (e2 : st = st2) (k : VV G A p l e R s m args below meth c cells slots Q nL h2 (pc) lv (st2)) : VV G A p l e R s m args below meth c cells slots Q nL h (pc) lv (st) := by subst e1; subst e2; exact k
theorem q_lv {lv2 : List (Nat × Value)} (e1 : lv = lv2) (k : VV G A p l e R s m args below meth c cells slots Q nL h (pc) lv2 (st)) : VV G A p l e R s m args below meth c cells slots Q nL h (pc) lv (st) := by subst e1; exact k
theorem q_sub {lv2 : List (Nat × Value)} (ks : List Nat) (e1 : lv_pick lv ks = lv2) (k : VV G A p l e R s m args below meth c cells slots Q nL h (pc) lv2 (st)) : VV G A p l e R s m args below meth c cells slots Q nL h (pc) lv (st) := fun H locs ls hP hS hl => k H locs ls hP hS (lv_sub hl ks e1)
theorem q_topi {x : Int32} (k : ∀ y : Int32, y = x → VV G A p l e R s m args below meth c cells slots Q nL h (pc) lv (.int y :: st)) : VV G A p l e R s m args below meth c cells slots Q nL h (pc) lv (.int x :: st) := k x rfl
theorem CX.words (X : CX G A p s m meth c own cc nL) {C : String} {T : u_T} {N ci : Nat} {ty : Nat → FieldType} (F : CF ci C T N ty) : ∀ w ∈ u_ws C T N, w.before args s = true := fun w hw => X.2.2.2.2.1.use (F.2.1 w hw).1 (F.2.1 w hw).2 args
theorem q_get (X : CX G A p s m meth c own cc nL) {g j fk ci N idx : Nat} {C ref : String} {T : u_T} {ty : Nat → FieldType} {fs : List ar_F} {f : ar_F} {v : Value} (F : CF ci C T N ty) (hc : ar_cell (gT G g) j = some (.inl (ci, fs))) (hk : fk < N) (hw : Cond.fieldLink own idx ref (T fk).2.1 (T fk).2.2.1 ∈ lw_tbl) (hr : (T fk).1 = ref) (hf : fs[fk]? = some f) (hd : decode cc pc = .ok (.getfield idx, 3)) (hv : ar_f G h g f = v) (k : VV G A p l e R s m args below meth c cells slots Q nL h (pc + 3) lv (v :: st)) : VV G A p l e R s m args below meth c cells slots Q nL h (pc) lv (.ref (gA G g j) :: st) := fun H locs ls hP hS hl => by
  obtain ⟨q, hq⟩ := wl_get X.2.2.2.2.2.1 h (g := g) (j := j) (by rw [hc]; exact fun z => by cases z)
  have he : ar_e G h g j = .inr (ci, fs.map (ar_f G h g)) := by unfold ar_e; rw [hc]; rfl
  rw [he] at hq
  exact va_get (D := gD G) (ci := ci) (v := v) (C := C) (T := T) (N := N) X.1 X.2.1 (X.words (args := args) F) (fun _ z => z) X.2.2.2.1 X.2.2.2.2.1.1 hP q hq F.1 _ hk (X.2.2.2.2.1.use hw rfl args) (fun x z => by rw [← hr]; exact z) (by rw [List.getElem?_map, hf, ← hv]; rfl) hd (k H locs ls hP hS hl)
theorem q_geti (X : CX G A p s m meth c own cc nL) {g j fk ci N idx sl : Nat} {C ref : String} {T : u_T} {ty : Nat → FieldType} {fs : List ar_F} {row : Nat → Int32} {x : Int32} (F : CF ci C T N ty) (hc : ar_cell (gT G g) j = some (.inl (ci, fs))) (hk : fk < N) (hw : Cond.fieldLink own idx ref (T fk).2.1 (T fk).2.2.1 ∈ lw_tbl) (hr : (T fk).1 = ref) (hf : fs[fk]? = some (.inl sl)) (hd : decode cc pc = .ok (.getfield idx, 3)) (hrow : h g = row) (hv : row sl = x) (k : VV G A p l e R s m args below meth c cells slots Q nL h (pc + 3) lv (.int x :: st)) : VV G A p l e R s m args below meth c cells slots Q nL h (pc) lv (.ref (gA G g j) :: st) := q_get X F hc hk hw hr hf hd (by show Value.int (h g sl) = _; rw [hrow, hv]) k
theorem q_put (X : CX G A p s m meth c own cc nL) {g j fk ci N idx sl : Nat} {C ref : String} {T : u_T} {ty : Nat → FieldType} {fs : List ar_F} {row : Nat → Int32} {x : Int32} {h2 : Hp} (F : CF ci C T N ty) (hc : ar_cell (gT G g) j = some (.inl (ci, fs))) (hk : fk < N) (hw : Cond.fieldLink own idx ref (T fk).2.1 (T fk).2.2.1 ∈ lw_tbl) (hr : (T fk).1 = ref) (hf : fs[fk]? = some (.inl sl)) (h1 : ar_one (gT G g) j sl = true) (hu : (List.range fs.length).all (fun i => i == fk || !decide (fs[i]? = some (.inl sl))) = true) (hfin : (T fk).2.2.2 = false) (hty : parseFieldDescriptor (T fk).2.2.1 = some .int) (hd : decode cc pc = .ok (.putfield idx, 3)) (hrow : h g = row) (hh : va_up h g (va_up row sl x) = h2) (k : VV G A p l e R s m args below meth c cells slots Q nL h2 (pc + 3) lv (st)) : VV G A p l e R s m args below meth c cells slots Q nL h (pc) lv (.int x :: .ref (gA G g j) :: st) := fun H locs ls hP hS hl => by
  subst hrow; subst hh
  have hnn : ar_cell (gT G g) j ≠ none := by rw [hc]; exact fun z => by cases z
  obtain ⟨q, hq⟩ := wl_get X.2.2.2.2.2.1 h (g := g) (j := j) hnn
  have hq0 := hq
  have he : ar_e G h g j = .inr (ci, fs.map (ar_f G h g)) := by unfold ar_e; rw [hc]; rfl
  rw [he] at hq
  have hD := wl_D X.2.2.2.2.2.1 X.2.2.2.2.2.2.1 (ar_nd G) h
  refine va_put (D := gD G) (ci := ci) (v := .int x) (C := C) (T := T) (N := N) X.1 X.2.1 (X.words (args := args) F) (fun _ z => z) ty F.2.2.1 F.2.2.2 X.2.2.2.1 X.2.2.2.2.1.1 hP hD hS q hq F.1 _ hk (X.2.2.2.2.1.use hw rfl args) (fun x z => by rw [← hr]; exact z) hfin hty rfl rfl (by rw [List.length_map]; exact (List.getElem?_eq_some_iff.mp hf).1) hd (fun H1 locs1 hP1 hD1 hS1 => k H1 locs1 ls ?_ hS1 hl)
  rw [wl_set X.2.2.2.2.2.1 (h' := hset h g sl x) hD hnn hq0 (hset_obj hc hf hu) (fun g' j' q1 q2 => hset_oth h1 g' j' q1 q2)] at hP1
  exact hP1
theorem q_iald (X : CX G A p s m meth c own cc nL) {g j o t : Nat} {i : Int32} {row : Nat → Int32} {x : Int32} (hc : ar_cell (gT G g) j = some (.inr (.inl (o, t)))) (hin : vp_in i (ar_n (gT G g) g)) (hd : decode cc pc = .ok (.iaload, 1)) (hrow : h g = row) (hv : row (o + t * i.toNatClampNeg) = x) (k : VV G A p l e R s m args below meth c cells slots Q nL h (pc + 1) lv (.int x :: st)) : VV G A p l e R s m args below meth c cells slots Q nL h (pc) lv (.int i :: .ref (gA G g j) :: st) := fun H locs ls hP hS hl => by
  subst hrow; subst hv
  obtain ⟨q, hq⟩ := wl_get X.2.2.2.2.2.1 h (g := g) (j := j) (by rw [hc]; exact fun z => by cases z)
  have he : ar_e G h g j = .inl (gI G, ar_n (gT G g) g, .inl (fun k => h g (o + t * k))) := by unfold ar_e; rw [hc]; rfl
  rw [he] at hq
  exact va_iald X.1 X.2.1 X.2.2.2.2.1.1 hP q 0 hq rfl hin hd (k H locs ls hP hS hl)
theorem q_iast (X : CX G A p s m meth c own cc nL) {g j o t : Nat} {i x : Int32} {row : Nat → Int32} {h2 : Hp} (hc : ar_cell (gT G g) j = some (.inr (.inl (o, t)))) (hin : vp_in i (ar_n (gT G g) g)) (hd : decode cc pc = .ok (.iastore, 1)) (hrow : h g = row) (hh : va_up h g (va_up row (o + t * i.toNatClampNeg) x) = h2) (k : VV G A p l e R s m args below meth c cells slots Q nL h2 (pc + 1) lv (st)) : VV G A p l e R s m args below meth c cells slots Q nL h (pc) lv (.int x :: .int i :: .ref (gA G g j) :: st) := fun H locs ls hP hS hl => by
  subst hrow; subst hh
  have hnn : ar_cell (gT G g) j ≠ none := by rw [hc]; exact fun z => by cases z
  obtain ⟨q, hq⟩ := wl_get X.2.2.2.2.2.1 h (g := g) (j := j) hnn
  have hq0 := hq
  have he : ar_e G h g j = .inl (gI G, ar_n (gT G g) g, .inl (fun k => h g (o + t * k))) := by unfold ar_e; rw [hc]; rfl
  rw [he] at hq
  have hD := wl_D X.2.2.2.2.2.1 X.2.2.2.2.2.2.1 (ar_nd G) h
  obtain ⟨ht, h1⟩ := ar_arr_one (i.toNatClampNeg) hc
  refine va_iast X.1 X.2.1 X.2.2.2.2.1.1 hP hD hS q 0 hq rfl hin hd (fun H1 locs1 hP1 hD1 hS1 => k H1 locs1 ls ?_ hS1 hl)
  rw [wl_set X.2.2.2.2.2.1 (h' := hset h g (o + t * i.toNatClampNeg) x) hD hnn hq0 (hset_arr hc ht) (fun g' j' q1 q2 => hset_oth h1 g' j' q1 q2)] at hP1
  exact hP1
theorem q_alen (X : CX G A p s m meth c own cc nL) {g j o t : Nat} {x : Int32} (hc : ar_cell (gT G g) j = some (.inr (.inl (o, t)))) (hd : decode cc pc = .ok (.arraylength, 1)) (hx : Int32.ofNat (ar_n (gT G g) g) = x) (k : VV G A p l e R s m args below meth c cells slots Q nL h (pc + 1) lv (.int x :: st)) : VV G A p l e R s m args below meth c cells slots Q nL h (pc) lv (.ref (gA G g j) :: st) := fun H locs ls hP hS hl => by
  obtain ⟨q, hq⟩ := wl_get X.2.2.2.2.2.1 h (g := g) (j := j) (by rw [hc]; exact fun z => by cases z)
  have he : ar_e G h g j = .inl (gI G, ar_n (gT G g) g, .inl (fun k => h g (o + t * k))) := by unfold ar_e; rw [hc]; rfl
  rw [he] at hq
  exact va_alen X.1 X.2.1 X.2.2.2.2.1.1 hP q 0 hq rfl hx hd (k H locs ls hP hS hl)
end QR
theorem va_up_up {α : Type} (f : Nat → α) (k : Nat) (v w : α) : va_up (va_up f k v) k w = va_up f k w := by
  funext j
  unfold va_up
  by_cases h : j = k <;> simp [h]
theorem va_up_id {α : Type} (f : Nat → α) (k : Nat) : va_up f k (f k) = f := by
  funext j
  unfold va_up
  by_cases h : j = k
  · subst h; simp
  · simp [h]
theorem va_up_cm {α : Type} (f : Nat → α) {k j : Nat} (v w : α) (h : k ≠ j) : va_up (va_up f k v) j w = va_up (va_up f j w) k v := by
  funext i
  unfold va_up
  by_cases h1 : i = j
  · subst h1
    simp [Ne.symm h]
  · simp [h1]
/-- class's groups are 0 to 35, the reference's 36 to 41 -/
def ar_T (g : Nat) : Nat := ([0, 1, 2, 3, 3, 5, 2, 6, 7, 3, 8, 1, 2, 3, 3, 5, 1, 2, 3, 3, 5, 1, 2, 3, 3, 5, 1, 2, 3, 3, 5, 1, 2, 3, 3, 5, 9, 10, 10, 11, 12, 13] : List Nat).getD g 14
def KT (G : Geo) : Prop := ∀ g, g < 36 → gT G g = ar_T g
def MT (G : Geo) : Prop := ∀ g, 36 ≤ g → g < 42 → gT G g = ar_T g
theorem vin_lit {i : Int32} {n : Nat} (h : (decide (¬ i < 0) && decide (i.toNatClampNeg < n)) = true) : vp_in i n := by
  rw [Bool.and_eq_true, decide_eq_true_eq, decide_eq_true_eq] at h
  exact fun q => q.elim h.1 (fun z => absurd h.2 (Nat.not_lt.mpr z))
theorem vin_of {i : Int32} {n : Nat} (h1 : ¬ i < 0) (h2 : i.toNatClampNeg < n) : vp_in i n := fun q => q.elim h1 (fun z => absurd h2 (Nat.not_lt.mpr z))
end
section
/-! CALLS over the arena, a method's entry and its ends -/
section QS
variable {G : Geo} {A : Nat → Prop} {p : Program} {l : Launch} {e : Env} {R : Room} {s : State} {m : MethodId} {args : Array Value} {below : List Frame} {meth : Method} {c : Code} {cells slots : Nat} {Q : State → Prop} {nL : Nat}
variable {own : String} {cc : ByteArray} {h : Hp} {pc : Nat} {lv : List (Nat × Value)} {st : List Value}
theorem PC.blind {G : Geo} {h : Hp} {av : List Value} : FrameBlind (va_Pc av (PC G h)) := fun a U g mk q => ⟨q.1, q.2.1.calling g mk a, q.2.2⟩
theorem q_after (X : CX G A p s m meth c own cc nL) {st0 rest : List Value} {h1 : Hp} {r : Option Value} {a : Array Value} {H : Heap} {locs : List Loc} {ls : Array Slot} (hr : va_Run p l e R s m args below meth c H locs cells slots 0 0 (F0 m pc ls st0) rest (QC G h1 r a) (AA G)) (hS : va_S A s.heap H locs) (hl : lv_has ls nL lv) (k : VV G A p l e R s m args below meth c cells slots Q nL h1 (pc + 3) lv (r.toList ++ rest)) : W p l e R s m args below meth c H locs cells slots Q (F0 m pc ls st0) := by
  have hf : ∀ q, AA G q → A q := fun q hq => by
    obtain ⟨g, j, h1, rfl⟩ := hq
    exact X.2.2.2.2.2.2.1 g j h1
  intro T hT Y
  obtain ⟨v, st₀, t, T', L, h0, X', hL, e1, e2, ⟨hv, hP1, hz, hk⟩, st⟩ := hr T hT Y
  cases hv
  rw [h0] at hz hk
  obtain ⟨t2, a1, b1⟩ := k T'.heap (locs ++ L) ls (by rw [e1]; exact hP1)
    ⟨Nat.le_trans hS.1 (by rw [e1]; exact hz), fun q h1 h2 => by rw [e1, hk q (Nat.lt_of_lt_of_le h1 hS.1) (fun z => h2 (hf q z))]; exact hS.2.1 q h1 h2, fun q hq => by
      rcases List.mem_append.mp hq with h | h
      · exact hS.2.2 q h
      · exact hf _ (hL q h)⟩ hl T' rfl X'
  exact ⟨t2, st t2 a1, b1⟩
theorem q_back (X : CX G A p s m meth c own cc nL) {y : MethodName} {bytes : ByteArray} {maxL fr lo n idx : Nat} {ret : Option FieldType} (hM : MF y bytes maxL ret n) (hw : Cond.methodLink own idx y ∈ lw_tbl) (hR : fr + 1 ≤ R.frames ∧ 8 + (maxL + 11) + lo ≤ R.locals) : CallB R s args own idx y bytes maxL ret [.code y bytes maxL ret] { frames := fr, cells := 0, slots := 0, locals := lo } 0 0 n := by
  have U := fun (w : Cond) (a : w ∈ lw_tbl) (b : gw w = true) => X.2.2.2.2.1.use (args := args) a b
  refine ⟨rfl, rfl, hR.1, hR.2, fun w h a' U' hW => ?_, List.mem_singleton.mpr rfl, U _ hM.1 rfl, U _ hM.2.1 rfl, hM.2.2.1, fun sig h => ?_, U _ hw rfl⟩
  · rw [List.mem_singleton.mp h]
    exact va_Nw.use rfl (nw_warm hW rfl (X.2.2.2.2.1.2 _ hM.1 rfl))
  · have h2 := hM.2.2.2.1
    rw [h] at h2
    exact (Option.some.inj h2).symm
theorem q_backN (X : CX G A p s m meth c own cc nL) {y : MethodName} {bytes : ByteArray} {maxL fr lo n idx : Nat} {ret : Option FieldType} {host : String} (hM : MF y bytes maxL ret n) (hw : Cond.methodLinkNest own idx y host ∈ lw_tbl) (hR : fr + 1 ≤ R.frames ∧ 8 + (maxL + 11) + lo ≤ R.locals) : va_CN R s args own idx y host bytes maxL ret [.code y bytes maxL ret] { frames := fr, cells := 0, slots := 0, locals := lo } 0 0 n := by
  have U := fun (w : Cond) (a : w ∈ lw_tbl) (b : gw w = true) => X.2.2.2.2.1.use (args := args) a b
  refine ⟨⟨rfl, rfl, hR.1, hR.2, fun w h a' U' hW => ?_, List.mem_singleton.mpr rfl⟩, U _ hM.1 rfl, U _ hM.2.1 rfl, hM.2.2.1, fun sig h => ?_, U _ hw rfl⟩
  · rw [List.mem_singleton.mp h]
    exact va_Nw.use rfl (nw_warm hW rfl (X.2.2.2.2.1.2 _ hM.1 rfl))
  · have h2 := hM.2.2.2.1
    rw [h] at h2
    exact (Option.some.inj h2).symm
theorem q_callV (X : CX G A p s m meth c own cc nL) {y : MethodName} {bytes : ByteArray} {maxL fr lo n idx g j ci N : Nat} {ret : Option FieldType} {As rest : List Value} {h1 : Hp} {r : Option Value} {C : String} {T : u_T} {ty : Nat → FieldType} {fs : List ar_F} (hC : CM G l y bytes maxL ret fr lo (.ref (gA G g j) :: As) h h1 r) (hM : MF y bytes maxL ret n) (hI : MV y) (F : CF ci C T N ty) (hcls : y.cls = C) (hc : ar_cell (gT G g) j = some (.inl (ci, fs))) (hw : Cond.methodLink own idx y ∈ lw_tbl) (hn : As.length = n) (hR : fr + 1 ≤ R.frames ∧ 8 + (maxL + 11) + lo ≤ R.locals) (hf : cells + 0 ≤ R.cells ∧ slots + 0 ≤ R.slots) (hst : st = As.reverse ++ .ref (gA G g j) :: rest) (hro : (rest.map fun v => v.category).sum ≤ 8) (hd : decode cc pc = .ok (.invokevirtual idx, 3)) {st2 : List Value} (hs2 : r.toList ++ rest = st2) (k : VV G A p l e R s m args below meth c cells slots Q nL h1 (pc + 3) lv (st2)) : VV G A p l e R s m args below meth c cells slots Q nL h (pc) lv (st) := fun H locs ls hP hS hl => by
  subst hs2
  obtain ⟨q, hq⟩ := wl_get X.2.2.2.2.2.1 h (g := g) (j := j) (by rw [hc]; exact fun z => by cases z)
  have he : ar_e G h g j = .inr (ci, fs.map (ar_f G h g)) := by unfold ar_e; rw [hc]; rfl
  rw [he] at hq
  have U := fun (w : Cond) (a : w ∈ lw_tbl) (b : gw w = true) => X.2.2.2.2.1.use (args := args) a b
  refine q_after X (va_runV (As := As) (rest := rest) (Ts := []) (nL := nL) (C := y.cls) ⟨X.1, X.2.1, X.2.2.1, X.2.2.2.1, fun w h => by cases h⟩ hC ⟨q_back X hM hw hR, U _ hI.1 rfl, U _ hI.2 rfl⟩ ⟨PC.blind, ?_, fun U hU hW => ⟨rfl, X.2.2.2.2.1.warm hW, by rw [hU]; exact hP⟩⟩ rfl hn hl.1 hst (lv_room hro) hd hf) hS hl k
  have h9 := va_recv X.2.2.2.2.1.1 hP (ci := ci) (q0 := q) F.1 hq
  rw [hcls]
  exact h9
theorem q_callS (X : CX G A p s m meth c own cc nL) {y : MethodName} {bytes : ByteArray} {maxL fr lo n idx : Nat} {ret : Option FieldType} {As rest : List Value} {h1 : Hp} {r : Option Value} (hC : CM G l y bytes maxL ret fr lo As h h1 r) (hM : MF y bytes maxL ret n) (hI : Cond.static y ∈ lw_tbl) (hw : Cond.methodLink own idx y ∈ lw_tbl) (hn : As.length = n) (hR : fr + 1 ≤ R.frames ∧ 8 + (maxL + 11) + lo ≤ R.locals) (hf : cells + 0 ≤ R.cells ∧ slots + 0 ≤ R.slots) (hst : st = As.reverse ++ rest) (hro : (rest.map fun v => v.category).sum ≤ 8) (hd : decode cc pc = .ok (.invokestatic idx, 3)) {st2 : List Value} (hs2 : r.toList ++ rest = st2) (k : VV G A p l e R s m args below meth c cells slots Q nL h1 (pc + 3) lv (st2)) : VV G A p l e R s m args below meth c cells slots Q nL h (pc) lv (st) := fun H locs ls hP hS hl => by
  subst hs2
  have U := fun (w : Cond) (a : w ∈ lw_tbl) (b : gw w = true) => X.2.2.2.2.1.use (args := args) a b
  exact q_after X (va_runS (As := As) (rest := rest) (Ts := []) (nL := nL) ⟨X.1, X.2.1, X.2.2.1, X.2.2.2.1, fun w h => by cases h⟩ hC ⟨q_back X hM hw hR, U _ hI rfl⟩ ⟨PC.blind, fun U hU hW => ⟨rfl, X.2.2.2.2.1.warm hW, by rw [hU]; exact hP⟩⟩ rfl hn hl.1 hst (lv_room hro) hd hf) hS hl k
theorem q_callSN (X : CX G A p s m meth c own cc nL) {y : MethodName} {bytes : ByteArray} {maxL fr lo n idx : Nat} {ret : Option FieldType} {host : String} {As rest : List Value} {h1 : Hp} {r : Option Value} (hC : CM G l y bytes maxL ret fr lo As h h1 r) (hM : MF y bytes maxL ret n) (hI : Cond.static y ∈ lw_tbl) (hw : Cond.methodLinkNest own idx y host ∈ lw_tbl) (hn : As.length = n) (hR : fr + 1 ≤ R.frames ∧ 8 + (maxL + 11) + lo ≤ R.locals) (hf : cells + 0 ≤ R.cells ∧ slots + 0 ≤ R.slots) (hst : st = As.reverse ++ rest) (hro : (rest.map fun v => v.category).sum ≤ 8) (hd : decode cc pc = .ok (.invokestatic idx, 3)) {st2 : List Value} (hs2 : r.toList ++ rest = st2) (k : VV G A p l e R s m args below meth c cells slots Q nL h1 (pc + 3) lv (st2)) : VV G A p l e R s m args below meth c cells slots Q nL h (pc) lv (st) := fun H locs ls hP hS hl => by
  subst hs2
  have U := fun (w : Cond) (a : w ∈ lw_tbl) (b : gw w = true) => X.2.2.2.2.1.use (args := args) a b
  exact q_after X (va_runSN (As := As) (rest := rest) (Ts := []) (nL := nL) ⟨X.1, X.2.1, X.2.2.1, X.2.2.2.1, fun w h => by cases h⟩ hC ⟨q_backN X hM hw hR, U _ hI rfl, trivial⟩ ⟨PC.blind, fun U hU hW => ⟨rfl, X.2.2.2.2.1.warm hW, by rw [hU]; exact hP⟩⟩ rfl hn hl.1 hst (lv_room hro) hd hf) hS hl k
/-- System.arraycopy of ints from a row's array onto another's, both from 0 -/
theorem q_copy (X : CX G A p s m meth c own cc nL) {idx g j o t g' j' o' t' : Nat} {n : Int32} {rest : List Value} {h2 : Hp} (hc : ar_cell (gT G g) j = some (.inr (.inl (o, t)))) (hc' : ar_cell (gT G g') j' = some (.inr (.inl (o', t')))) (hw : Cond.methodLink own idx arraycopyName ∈ lw_tbl ∧ Cond.native arraycopyName ∈ lw_tbl ∧ Cond.static arraycopyName ∈ lw_tbl ∧ Cond.initialized "java/lang/System" ∈ lw_tbl) (h3 : ¬ n < 0) (h4 : n.toNatClampNeg ≤ ar_n (gT G g) g) (h5 : n.toNatClampNeg ≤ ar_n (gT G g') g') (hro : 1 ≤ R.frames ∧ (rest.map fun v => v.category).sum + (nativeFrameWords "java/lang/System" "arraycopy" 5 + 11) ≤ R.locals) (hd : decode cc pc = .ok (.invokestatic idx, 3)) (he : ar_e G h2 g' j' = .inl (gI G, ar_n (gT G g') g', .inl (va_cpy (fun k => h g (o + t * k)) (fun k => h g' (o' + t' * k)) 0 0 n.toNatClampNeg))) (ho : ∀ a b : Nat, ar_cell (gT G a) b ≠ none → (a = g' ∧ b = j' → False) → ar_e G h2 a b = ar_e G h a b) (k : VV G A p l e R s m args below meth c cells slots Q nL h2 (pc + 3) lv (rest)) : VV G A p l e R s m args below meth c cells slots Q nL h (pc) lv (.int n :: .int 0 :: .ref (gA G g' j') :: .int 0 :: .ref (gA G g j) :: rest) := fun H locs ls hP hS hl => by
  have U := fun (w : Cond) (a : w ∈ lw_tbl) (b : gw w = true) => X.2.2.2.2.1.use (args := args) a b
  have hnn : ar_cell (gT G g') j' ≠ none := by rw [hc']; exact fun z => by cases z
  obtain ⟨q, hq⟩ := wl_get X.2.2.2.2.2.1 h (g := g) (j := j) (by rw [hc]; exact fun z => by cases z)
  have he1 : ar_e G h g j = .inl (gI G, ar_n (gT G g) g, .inl (fun k => h g (o + t * k))) := by unfold ar_e; rw [hc]; rfl
  rw [he1] at hq
  obtain ⟨q', hq'⟩ := wl_get X.2.2.2.2.2.1 h (g := g') (j := j') hnn
  have hq0 := hq'
  have he2 : ar_e G h g' j' = .inl (gI G, ar_n (gT G g') g', .inl (fun k => h g' (o' + t' * k))) := by unfold ar_e; rw [hc']; rfl
  rw [he2] at hq'
  have hD := wl_D X.2.2.2.2.2.1 X.2.2.2.2.2.2.1 (ar_nd G) h
  have z0 : (0 : Int32).toNatClampNeg = 0 := rfl
  refine va_copyi X.1 X.2.1 (X.2.2.1.trans hl.1.symm) X.2.2.2.1 (U _ hw.1 rfl) (U _ hw.2.1 rfl) (U _ hw.2.2.1 rfl) (U _ hw.2.2.2 rfl) X.2.2.2.2.1.1 hP hD hS q q' 0 0 hq hq' rfl rfl rfl (by decide) (by decide) h3 (by rw [z0, Nat.zero_add]; exact h4) (by rw [z0, Nat.zero_add]; exact h5) (fun i _ => rfl) hro.1 hro.2 hd (fun H1 locs1 hP1 hD1 hS1 => k H1 locs1 ls ?_ hS1 hl)
  rw [wl_set X.2.2.2.2.2.1 (h' := h2) hD hnn hq0 (by rw [he, z0]) (fun g' j' q1 q2 => ho g' j' q1 q2)] at hP1
  exact hP1
theorem q_ald (X : CX G A p s m meth c own cc nL) {g idx : Nat} {i : Int32} {g2 : Nat} (hc : ar_cell (gT G g) 1 = some (.inr (.inr ()))) (hin : vp_in i 5) (hd : decode cc pc = .ok (.aaload, 1)) (hv : 11 + 5 * i.toNatClampNeg = g2) (k : VV G A p l e R s m args below meth c cells slots Q nL h (pc + 1) lv (.ref (gA G g2 0) :: st)) : VV G A p l e R s m args below meth c cells slots Q nL h (pc) lv (.int i :: .ref (gA G g 1) :: st) := fun H locs ls hP hS hl => by
  subst hv
  obtain ⟨q, hq⟩ := wl_get X.2.2.2.2.2.1 h (g := g) (j := 1) (by rw [hc]; exact fun z => by cases z)
  have he : ar_e G h g 1 = .inl (gS G, 5, .inr (.inr (.inr (.inr (fun k => some (gA G (11 + 5 * k) 0)))))) := by unfold ar_e; rw [hc]; rfl
  rw [he] at hq
  exact va_aldq X.1 X.2.1 X.2.2.2.2.1.1 hP q 1 hq rfl hin hd (k H locs ls hP hS hl)
theorem q_alenS (X : CX G A p s m meth c own cc nL) {g : Nat} (hc : ar_cell (gT G g) 1 = some (.inr (.inr ()))) (hd : decode cc pc = .ok (.arraylength, 1)) (k : VV G A p l e R s m args below meth c cells slots Q nL h (pc + 1) lv (.int 5 :: st)) : VV G A p l e R s m args below meth c cells slots Q nL h (pc) lv (.ref (gA G g 1) :: st) := fun H locs ls hP hS hl => by
  obtain ⟨q, hq⟩ := wl_get X.2.2.2.2.2.1 h (g := g) (j := 1) (by rw [hc]; exact fun z => by cases z)
  have he : ar_e G h g 1 = .inl (gS G, 5, .inr (.inr (.inr (.inr (fun k => some (gA G (11 + 5 * k) 0)))))) := by unfold ar_e; rw [hc]; rfl
  rw [he] at hq
  exact va_alen X.1 X.2.1 X.2.2.2.2.1.1 hP q 1 hq rfl rfl hd (k H locs ls hP hS hl)
end QS
section QE
variable {G : Geo} {p : Program} {l : Launch} {e : Env} {R : Room} {s : State} {m : MethodId} {args : Array Value} {below : List Frame} {meth : Method} {c : Code} {nL : Nat}
variable {own : String} {cc : ByteArray} {h h1 : Hp} {pc : Nat} {lv : List (Nat × Value)} {r : Option Value}
theorem q_iret (X : CX G (AA G) p s m meth c own cc nL) {v : Int32} (hr : meth.sig.returnType = some .int) (hd : decode cc pc = .ok (.ireturn, 1)) (e1 : r = some (.int v)) (e2 : h1 = h) : VV G (AA G) p l e R s m args below meth c 0 0 (MQ below (QC G h1 r) args s 0 0 (AA G)) nL h pc lv [.int v] := fun H locs ls hP hS hl => by
  subst e1; subst e2
  exact W.iret (v := v) X.1 X.2.1 hr (fun t ht hW => ⟨rfl, by rw [ht]; exact hP, hS.F ht⟩) hS.2.2 hd X.2.2.2.2.2.2.2
theorem q_zret (X : CX G (AA G) p s m meth c own cc nL) {v : Int32} (hr : meth.sig.returnType = some .boolean) (hn : narrow .boolean (.int v) = .int v) (hd : decode cc pc = .ok (.ireturn, 1)) (e1 : r = some (.int v)) (e2 : h1 = h) : VV G (AA G) p l e R s m args below meth c 0 0 (MQ below (QC G h1 r) args s 0 0 (AA G)) nL h pc lv [.int v] := fun H locs ls hP hS hl => by
  subst e1; subst e2
  exact W.zret (v := v) X.1 X.2.1 hr hn (fun t ht hW => ⟨rfl, by rw [ht]; exact hP, hS.F ht⟩) hS.2.2 hd X.2.2.2.2.2.2.2
theorem q_lret (X : CX G (AA G) p s m meth c own cc nL) {v : Int64} (hr : meth.sig.returnType = some .long) (hd : decode cc pc = .ok (.lreturn, 1)) (e1 : r = some (.long v)) (e2 : h1 = h) : VV G (AA G) p l e R s m args below meth c 0 0 (MQ below (QC G h1 r) args s 0 0 (AA G)) nL h pc lv [.long v] := fun H locs ls hP hS hl => by
  subst e1; subst e2
  exact W.lret (v := v) X.1 X.2.1 hr (fun t ht hW => ⟨rfl, by rw [ht]; exact hP, hS.F ht⟩) hS.2.2 hd X.2.2.2.2.2.2.2
theorem q_aret (X : CX G (AA G) p s m meth c own cc nL) {a : Nat} {n : String} (hr : meth.sig.returnType = some (.object n)) (hd : decode cc pc = .ok (.areturn, 1)) (e1 : r = some (.ref a)) (e2 : h1 = h) : VV G (AA G) p l e R s m args below meth c 0 0 (MQ below (QC G h1 r) args s 0 0 (AA G)) nL h pc lv [.ref a] := fun H locs ls hP hS hl => by
  subst e1; subst e2
  exact W.aret (v := .ref a) X.1 X.2.1 hr (Or.inl ⟨_, rfl⟩) (Or.inr ⟨_, rfl⟩) (fun t ht hW => ⟨rfl, by rw [ht]; exact hP, hS.F ht⟩) hS.2.2 hd X.2.2.2.2.2.2.2
theorem q_vret (X : CX G (AA G) p s m meth c own cc nL) (hr : meth.sig.returnType = none) (hd : decode cc pc = .ok (.return_, 1)) (e1 : r = none) (e2 : h1 = h) : VV G (AA G) p l e R s m args below meth c 0 0 (MQ below (QC G h1 r) args s 0 0 (AA G)) nL h pc lv [] := fun H locs ls hP hS hl => by
  subst e1; subst e2
  exact W.vret X.1 X.2.1 hr (fun t ht hW => ⟨rfl, by rw [ht]; exact hP, hS.F ht⟩) hS.2.2 hd X.2.2.2.2.2.2.2
end QE
theorem Met.ofWF {y : MethodName} {ws ws' : List Cond} {rm : Room} {Pc : Array Value → State → Prop} {Qc : Array Value → State → Outcome → State → Prop} {mc ms : Nat} {free : Addr → Prop} {cc : ByteArray} {maxL : Nat} {ret : Option FieldType} {l : Launch}
    (hy : plainFor y = true) (hw : ws = Cond.code y cc maxL ret :: ws')
    (body : ∀ p e s m args below meth c s₁, BodyLoose p l y (headSpec ws rm) cc maxL ret e s m args below meth c s₁ → c.maxLocals = maxL → Pc args s →
      W p l e (headSpec ws rm).room s m args below meth c s.heap [] 0 0 (MQ below Qc args s mc ms free) (entryFrame m args maxL)) : Met l y ws rm Pc Qc mc ms free := by
  refine MetFree.of_bodySF (code := cc) (maxLocals := maxL) (ret := ret) hy ?_ ?_
  · intro args s m h hn
    obtain ⟨meth, c, h1, h2, h3, h4, h5, h6, -, -⟩ := Cond.code_spec hn (atoms_spec (ws := ws) h _ (by rw [hw]; exact List.mem_cons_self))
    exact ⟨meth, c, h1, h2, h3, h4, h5, h6⟩
  · intro p e s m args below meth c s₁ B hml hP _
    have hh0 : s₁.heap = s.heap := by rw [B.state]; rfl
    obtain ⟨t, a1, o, b1, b2, b3⟩ := body p e s m args below meth c s₁ B hml hP s₁ hh0 (Stand.of_body B)
    exact ⟨t, o, a1, b1, b2, ⟨b3.1, b3.2⟩⟩
/-- a method, from its entry -/
theorem q_enter {G : Geo} {l : Launch} {y : MethodName} {bytes : ByteArray} {maxL fr lo n : Nat} {ret : Option FieldType} {av : List Value} {h h1 : Hp} {r : Option Value} (hG : GOK G) (hM : MF y bytes maxL ret n) (hav : (lg_sl av).length ≤ maxL)
    (body : ∀ (p : Program) (e : Env) (s : State) (m : MethodId) (below : List Frame) (meth : Method) (c : Code), CX G (AA G) p s m meth c y.cls bytes maxL → meth.sig.returnType = ret → VV G (AA G) p l e { frames := fr, cells := 0, slots := 0, locals := lo } s m av.toArray below meth c 0 0 (MQ below (QC G h1 r) av.toArray s 0 0 (AA G)) maxL h 0 (lv_args 0 av) []) : CM G l y bytes maxL ret fr lo av h h1 r := by
  refine Met.ofWF (cc := bytes) (maxL := maxL) (ret := ret) hM.2.2.2.2 rfl ?_
  intro p e s m args below meth c s₁ B hml hv
  obtain ⟨rfl, hK, hP⟩ := hv
  have hown : s.vm.findClass y.cls = some m.cls := findClass_of_methodNamed B.named
  have X : CX G (AA G) p s m meth c y.cls bytes maxL := ⟨B.exec, B.bytes, hml, hown, hK, hG, fun g j h => ⟨g, j, h, rfl⟩, B.notSynchronized⟩
  have hl := lv_entry av (n := maxL) hav
  rw [lg_entry_eq]
  exact body p e s m below meth c X B.returns s.heap [] _ hP va_S.rf hl
theorem ac_0_0 {G : Geo} {g : Nat} (h : gT G g = 0) : ar_cell (gT G g) 0 = some (.inl (9, [.inr (1, 0), .inr (2, 0), .inr (2, 1), .inr (3, 0), .inr (4, 0), .inr (5, 0), .inr (10, 0), .inr (7, 0), .inr (8, 0), .inr (6, 0)])) := by rw [h]; rfl
theorem ac_1_0 {G : Geo} {g : Nat} (h : gT G g = 1) : ar_cell (gT G g) 0 = some (.inl (7, [.inr (1, 0), .inr (2, 0), .inr (3, 0), .inr (4, 0)])) := by rw [h]; rfl
theorem ac_2_0 {G : Geo} {g : Nat} (h : gT G g = 2) : ar_cell (gT G g) 0 = some (.inl (4, [.inr (0, 1), .inr (0, 2), .inl 0, .inl 1, .inl 2, .inl 4, .inl 7, .inl 13])) := by rw [h]; rfl
theorem ac_2_1 {G : Geo} {g : Nat} (h : gT G g = 2) : ar_cell (gT G g) 1 = some (.inl (5, [.inl 3, .inl 9, .inl 10, .inl 11, .inl 12, .inl 5, .inl 6, .inl 14, .inl 15, .inl 8])) := by rw [h]; rfl
theorem ac_2_2 {G : Geo} {g : Nat} (h : gT G g = 2) : ar_cell (gT G g) 2 = some (.inl (0, [.inl 16, .inl 17, .inl 18, .inl 19, .inl 20, .inr (0, 3), .inl 23, .inl 24, .inl 25])) := by rw [h]; rfl
theorem ac_2_3 {G : Geo} {g : Nat} (h : gT G g = 2) : ar_cell (gT G g) 3 = some (.inr (.inl (26, 1))) := by rw [h]; rfl
theorem ac_3_0 {G : Geo} {g : Nat} (h : gT G g = 3) : ar_cell (gT G g) 0 = some (.inl (6, [.inr (0, 1), .inr (0, 2), .inl 0])) := by rw [h]; rfl
theorem ac_3_1 {G : Geo} {g : Nat} (h : gT G g = 3) : ar_cell (gT G g) 1 = some (.inr (.inl (1, 2))) := by rw [h]; rfl
theorem ac_3_2 {G : Geo} {g : Nat} (h : gT G g = 3) : ar_cell (gT G g) 2 = some (.inr (.inl (2, 2))) := by rw [h]; rfl
theorem ac_5_0 {G : Geo} {g : Nat} (h : gT G g = 5) : ar_cell (gT G g) 0 = some (.inl (2, [.inr (0, 1), .inl 1, .inl 0])) := by rw [h]; rfl
theorem ac_5_1 {G : Geo} {g : Nat} (h : gT G g = 5) : ar_cell (gT G g) 1 = some (.inr (.inl (2, 1))) := by rw [h]; rfl
theorem ac_6_0 {G : Geo} {g : Nat} (h : gT G g = 6) : ar_cell (gT G g) 0 = some (.inl (8, [.inr (0, 1), .inl 0])) := by rw [h]; rfl
theorem ac_6_1 {G : Geo} {g : Nat} (h : gT G g = 6) : ar_cell (gT G g) 1 = some (.inr (.inl (1, 1))) := by rw [h]; rfl
theorem ac_7_0 {G : Geo} {g : Nat} (h : gT G g = 7) : ar_cell (gT G g) 0 = some (.inl (3, [.inr (1, 0), .inl 0])) := by rw [h]; rfl
theorem ac_8_0 {G : Geo} {g : Nat} (h : gT G g = 8) : ar_cell (gT G g) 0 = some (.inl (1, [.inr (0, 1), .inl 0, .inl 1])) := by rw [h]; rfl
theorem ac_8_1 {G : Geo} {g : Nat} (h : gT G g = 8) : ar_cell (gT G g) 1 = some (.inr (.inr ())) := by rw [h]; rfl
theorem ac_9_0 {G : Geo} {g : Nat} (h : gT G g = 9) : ar_cell (gT G g) 0 = some (.inl (10, [.inl 0, .inr (1, 0), .inr (2, 0), .inr (3, 0), .inl 1, .inr (4, 0), .inl 2, .inl 3, .inl 4, .inr (5, 0)])) := by rw [h]; rfl
theorem ac_10_0 {G : Geo} {g : Nat} (h : gT G g = 10) : ar_cell (gT G g) 0 = some (.inr (.inl (0, 1))) := by rw [h]; rfl
theorem ac_11_0 {G : Geo} {g : Nat} (h : gT G g = 11) : ar_cell (gT G g) 0 = some (.inr (.inl (0, 1))) := by rw [h]; rfl
theorem ac_12_0 {G : Geo} {g : Nat} (h : gT G g = 12) : ar_cell (gT G g) 0 = some (.inr (.inl (0, 1))) := by rw [h]; rfl
theorem ac_13_0 {G : Geo} {g : Nat} (h : gT G g = 13) : ar_cell (gT G g) 0 = some (.inr (.inl (0, 1))) := by rw [h]; rfl
theorem ne_ty {G : Geo} {a b x y : Nat} (ha : gT G a = x) (hb : gT G b = y) (h : x ≠ y) : a ≠ b := fun e => h (by rw [← ha, ← hb, e])
theorem va_up_id2 {α : Type} {f : Nat → α} {k : Nat} {v : α} (h : f k = v) : va_up f k v = f := by rw [← h]; exact va_up_id f k
theorem z01 {v : Int32} (h : v = 0 ∨ v = 1) : narrow .boolean (.int v) = .int v := by
  rcases h with rfl | rfl <;> rfl
theorem lgc_ne {y : Int64} (h : ¬ lg_cmp y 0 ≤ 0) : ¬ y = 0 := by
  rintro rfl
  exact h (by decide)
end
section
def S_J9_abs_0f7a4 (a : Int32) : Int32 := let m2 : Int32 := if 0 ≤ a then (a) else (-a); m2
set_option maxRecDepth 100000 in
set_option maxHeartbeats 4000000 in
theorem c_J9_abs_0f7a4 {G : Geo} {l : Launch} (hG : GOK G) {h : Hp} (a : Int32)  : CM G l yJ9_abs_0f7a4 cJ9_abs_0f7a4 1 (some .int) 0 0 [.int a] h h (some (.int (S_J9_abs_0f7a4 a))) := by
  obtain ⟨Z, hZ⟩ : ∃ Z, S_J9_abs_0f7a4 a = Z := ⟨_, rfl⟩
  rw [hZ]
  refine q_enter hG mf_J9_abs_0f7a4 (Nat.le_of_ble_eq_true rfl) ?_
  intro p e s m below meth c X hret
  refine q_lv (lv2 := [(0, .int a)]) rfl ?_
  refine q_iload_n X 0 dJ9_abs_0f7a4_0 rfl ?_
  suffices hJ3 : ∀ (m2 : Int32), m2 = (if 0 ≤ a then (a) else (-a)) → VV G (AA G) p l e { frames := 0, cells := 0, slots := 0, locals := 0 } s m ([.int a] : List Value).toArray below meth c 0 0 (MQ below (QC G h (some (.int Z))) ([.int a] : List Value).toArray s 0 0 (AA G)) 1 h 10 [(0, .int a)] [.int m2] by
    refine q_if_ge (tgt := 9) X dJ9_abs_0f7a4_1 (by decide) (fun c1 => ?_) (fun c1 => ?_)
    · skip
      refine q_iload_n X 0 dJ9_abs_0f7a4_9 rfl ?_
      refine q_sub (lv2 := [(0, .int a)]) [0] rfl ?_
      exact hJ3 a (by exact ((if_pos c1).trans rfl).symm)
    · skip
      refine q_iload_n X 0 dJ9_abs_0f7a4_4 rfl ?_
      refine q_ineg X dJ9_abs_0f7a4_5 ?_
      refine q_goto (tgt := 10) X dJ9_abs_0f7a4_6 (by decide) ?_
      refine q_sub (lv2 := [(0, .int a)]) [0] rfl ?_
      exact hJ3 (-a) (by exact ((if_neg c1).trans rfl).symm)
  intro m2 e_m2
  have E : Z = m2 := by subst e_m2; exact hZ.symm.trans (rfl)
  exact q_iret X hret dJ9_abs_0f7a4_10 (by rw [E]) rfl
def S_J9_max_7cf53 (a : Int32) (b : Int32) : Int32 := let m2 : Int32 := if a < b then (b) else (a); m2
set_option maxRecDepth 100000 in
set_option maxHeartbeats 4000000 in
theorem c_J9_max_7cf53 {G : Geo} {l : Launch} (hG : GOK G) {h : Hp} (a : Int32) (b : Int32)  : CM G l yJ9_max_7cf53 cJ9_max_7cf53 2 (some .int) 0 0 [.int a, .int b] h h (some (.int (S_J9_max_7cf53 a b))) := by
  obtain ⟨Z, hZ⟩ : ∃ Z, S_J9_max_7cf53 a b = Z := ⟨_, rfl⟩
  rw [hZ]
  refine q_enter hG mf_J9_max_7cf53 (Nat.le_of_ble_eq_true rfl) ?_
  intro p e s m below meth c X hret
  refine q_lv (lv2 := [(0, .int a), (1, .int b)]) rfl ?_
  refine q_iload_n X 0 dJ9_max_7cf53_0 rfl ?_
  refine q_iload_n X 1 dJ9_max_7cf53_1 rfl ?_
  suffices hJ3 : ∀ (m2 : Int32), m2 = (if a < b then (b) else (a)) → VV G (AA G) p l e { frames := 0, cells := 0, slots := 0, locals := 0 } s m ([.int a, .int b] : List Value).toArray below meth c 0 0 (MQ below (QC G h (some (.int Z))) ([.int a, .int b] : List Value).toArray s 0 0 (AA G)) 2 h 10 [(0, .int a), (1, .int b)] [.int m2] by
    refine q_icmp_lt (tgt := 9) X dJ9_max_7cf53_2 (by decide) (fun c1 => ?_) (fun c1 => ?_)
    · skip
      refine q_iload_n X 1 dJ9_max_7cf53_9 rfl ?_
      refine q_sub (lv2 := [(0, .int a), (1, .int b)]) [0, 1] rfl ?_
      exact hJ3 b (by exact ((if_pos c1).trans rfl).symm)
    · skip
      refine q_iload_n X 0 dJ9_max_7cf53_5 rfl ?_
      refine q_goto (tgt := 10) X dJ9_max_7cf53_6 (by decide) ?_
      refine q_sub (lv2 := [(0, .int a), (1, .int b)]) [0, 1] rfl ?_
      exact hJ3 a (by exact ((if_neg c1).trans rfl).symm)
  intro m2 e_m2
  have E : Z = m2 := by subst e_m2; exact hZ.symm.trans (rfl)
  exact q_iret X hret dJ9_max_7cf53_10 (by rw [E]) rfl
def S_J9_min_7cf53 (a : Int32) (b : Int32) : Int32 := let m2 : Int32 := if b < a then (b) else (a); m2
set_option maxRecDepth 100000 in
set_option maxHeartbeats 4000000 in
theorem c_J9_min_7cf53 {G : Geo} {l : Launch} (hG : GOK G) {h : Hp} (a : Int32) (b : Int32)  : CM G l yJ9_min_7cf53 cJ9_min_7cf53 2 (some .int) 0 0 [.int a, .int b] h h (some (.int (S_J9_min_7cf53 a b))) := by
  obtain ⟨Z, hZ⟩ : ∃ Z, S_J9_min_7cf53 a b = Z := ⟨_, rfl⟩
  rw [hZ]
  refine q_enter hG mf_J9_min_7cf53 (Nat.le_of_ble_eq_true rfl) ?_
  intro p e s m below meth c X hret
  refine q_lv (lv2 := [(0, .int a), (1, .int b)]) rfl ?_
  refine q_iload_n X 0 dJ9_min_7cf53_0 rfl ?_
  refine q_iload_n X 1 dJ9_min_7cf53_1 rfl ?_
  suffices hJ3 : ∀ (m2 : Int32), m2 = (if b < a then (b) else (a)) → VV G (AA G) p l e { frames := 0, cells := 0, slots := 0, locals := 0 } s m ([.int a, .int b] : List Value).toArray below meth c 0 0 (MQ below (QC G h (some (.int Z))) ([.int a, .int b] : List Value).toArray s 0 0 (AA G)) 2 h 10 [(0, .int a), (1, .int b)] [.int m2] by
    refine q_icmp_gt (tgt := 9) X dJ9_min_7cf53_2 (by decide) (fun c1 => ?_) (fun c1 => ?_)
    · skip
      refine q_iload_n X 1 dJ9_min_7cf53_9 rfl ?_
      refine q_sub (lv2 := [(0, .int a), (1, .int b)]) [0, 1] rfl ?_
      exact hJ3 b (by exact ((if_pos c1).trans rfl).symm)
    · skip
      refine q_iload_n X 0 dJ9_min_7cf53_5 rfl ?_
      refine q_goto (tgt := 10) X dJ9_min_7cf53_6 (by decide) ?_
      refine q_sub (lv2 := [(0, .int a), (1, .int b)]) [0, 1] rfl ?_
      exact hJ3 a (by exact ((if_neg c1).trans rfl).symm)
  intro m2 e_m2
  have E : Z = m2 := by subst e_m2; exact hZ.symm.trans (rfl)
  exact q_iret X hret dJ9_min_7cf53_10 (by rw [E]) rfl
def S_J9_floorDiv_7cf53 (a : Int32) (b : Int32) : Int32 := if 0 ≤ (a ^^^ b) then (a / b) else (if ((a / b) * b) = a then (a / b) else ((a / b) - 1))
set_option maxRecDepth 100000 in
set_option maxHeartbeats 4000000 in
theorem c_J9_floorDiv_7cf53 {G : Geo} {l : Launch} (hG : GOK G) {h : Hp} (a : Int32) (b : Int32) (hb : ¬ b = 0) : CM G l yJ9_floorDiv_7cf53 cJ9_floorDiv_7cf53 3 (some .int) 0 0 [.int a, .int b] h h (some (.int (S_J9_floorDiv_7cf53 a b))) := by
  obtain ⟨Z, hZ⟩ : ∃ Z, S_J9_floorDiv_7cf53 a b = Z := ⟨_, rfl⟩
  rw [hZ]
  refine q_enter hG mf_J9_floorDiv_7cf53 (Nat.le_of_ble_eq_true rfl) ?_
  intro p e s m below meth c X hret
  refine q_lv (lv2 := [(0, .int a), (1, .int b)]) rfl ?_
  refine q_iload_n X 0 dJ9_floorDiv_7cf53_0 rfl ?_
  refine q_iload_n X 1 dJ9_floorDiv_7cf53_1 rfl ?_
  refine q_idiv X dJ9_floorDiv_7cf53_2 hb ?_
  refine q_istore_n (lv' := [(2, .int (a / b)), (0, .int a), (1, .int b)]) X dJ9_floorDiv_7cf53_3 (by decide) rfl ?_
  refine q_iload_n X 1 dJ9_floorDiv_7cf53_4 rfl ?_
  refine q_iload_n X 2 dJ9_floorDiv_7cf53_5 rfl ?_
  refine q_ixor X dJ9_floorDiv_7cf53_6 ?_
  refine q_if_ge (tgt := 21) X dJ9_floorDiv_7cf53_7 (by decide) (fun c1 => ?_) (fun c1 => ?_)
  · skip
    refine q_iload_n X 0 dJ9_floorDiv_7cf53_21 rfl ?_
    have E : Z = a / b := by exact hZ.symm.trans ((if_pos c1).trans rfl)
    exact q_iret X hret dJ9_floorDiv_7cf53_22 (by rw [E]) rfl
  · skip
    refine q_iload_n X 0 dJ9_floorDiv_7cf53_10 rfl ?_
    refine q_iload_n X 2 dJ9_floorDiv_7cf53_11 rfl ?_
    refine q_imul X dJ9_floorDiv_7cf53_12 ?_
    refine q_iload_n X 1 dJ9_floorDiv_7cf53_13 rfl ?_
    refine q_icmp_eq (tgt := 21) X dJ9_floorDiv_7cf53_14 (by decide) (fun c2 => ?_) (fun c2 => ?_)
    · skip
      refine q_iload_n X 0 dJ9_floorDiv_7cf53_21 rfl ?_
      have E : Z = a / b := by exact hZ.symm.trans ((if_neg c1).trans ((if_pos c2).trans rfl))
      exact q_iret X hret dJ9_floorDiv_7cf53_22 (by rw [E]) rfl
    · skip
      refine q_iload_n X 0 dJ9_floorDiv_7cf53_17 rfl ?_
      refine q_iconst (v := 1) X dJ9_floorDiv_7cf53_18 (by decide) ?_
      refine q_isub X dJ9_floorDiv_7cf53_19 ?_
      have E : Z = (a / b) - 1 := by exact hZ.symm.trans ((if_neg c1).trans ((if_neg c2).trans rfl))
      exact q_iret X hret dJ9_floorDiv_7cf53_20 (by rw [E]) rfl
def S_J9_floorMod_7cf53 (a : Int32) (b : Int32) : Int32 := if 0 ≤ (a ^^^ b) then (a - a / b * b) else (if (a - a / b * b) = 0 then (a - a / b * b) else ((a - a / b * b) + b))
set_option maxRecDepth 100000 in
set_option maxHeartbeats 4000000 in
theorem c_J9_floorMod_7cf53 {G : Geo} {l : Launch} (hG : GOK G) {h : Hp} (a : Int32) (b : Int32) (hb : ¬ b = 0) : CM G l yJ9_floorMod_7cf53 cJ9_floorMod_7cf53 3 (some .int) 0 0 [.int a, .int b] h h (some (.int (S_J9_floorMod_7cf53 a b))) := by
  obtain ⟨Z, hZ⟩ : ∃ Z, S_J9_floorMod_7cf53 a b = Z := ⟨_, rfl⟩
  rw [hZ]
  refine q_enter hG mf_J9_floorMod_7cf53 (Nat.le_of_ble_eq_true rfl) ?_
  intro p e s m below meth c X hret
  refine q_lv (lv2 := [(0, .int a), (1, .int b)]) rfl ?_
  refine q_iload_n X 0 dJ9_floorMod_7cf53_0 rfl ?_
  refine q_iload_n X 1 dJ9_floorMod_7cf53_1 rfl ?_
  refine q_irem X dJ9_floorMod_7cf53_2 hb ?_
  refine q_istore_n (lv' := [(2, .int (a - a / b * b)), (0, .int a), (1, .int b)]) X dJ9_floorMod_7cf53_3 (by decide) rfl ?_
  refine q_iload_n X 1 dJ9_floorMod_7cf53_4 rfl ?_
  refine q_iload_n X 2 dJ9_floorMod_7cf53_5 rfl ?_
  refine q_ixor X dJ9_floorMod_7cf53_6 ?_
  refine q_if_ge (tgt := 18) X dJ9_floorMod_7cf53_7 (by decide) (fun c1 => ?_) (fun c1 => ?_)
  · skip
    refine q_iload_n X 0 dJ9_floorMod_7cf53_18 rfl ?_
    have E : Z = a - a / b * b := by exact hZ.symm.trans ((if_pos c1).trans rfl)
    exact q_iret X hret dJ9_floorMod_7cf53_19 (by rw [E]) rfl
  · skip
    refine q_iload_n X 0 dJ9_floorMod_7cf53_10 rfl ?_
    refine q_if_eq (tgt := 18) X dJ9_floorMod_7cf53_11 (by decide) (fun c2 => ?_) (fun c2 => ?_)
    · skip
      refine q_iload_n X 0 dJ9_floorMod_7cf53_18 rfl ?_
      have E : Z = a - a / b * b := by exact hZ.symm.trans ((if_neg c1).trans ((if_pos c2).trans rfl))
      exact q_iret X hret dJ9_floorMod_7cf53_19 (by rw [E]) rfl
    · skip
      refine q_iload_n X 0 dJ9_floorMod_7cf53_14 rfl ?_
      refine q_iload_n X 2 dJ9_floorMod_7cf53_15 rfl ?_
      refine q_iadd X dJ9_floorMod_7cf53_16 ?_
      have E : Z = (a - a / b * b) + b := by exact hZ.symm.trans ((if_neg c1).trans ((if_neg c2).trans rfl))
      exact q_iret X hret dJ9_floorMod_7cf53_17 (by rw [E]) rfl
def S_J9_floorDiv_f86c9 (a : Int64) (b : Int64) : Int64 := if 0 ≤ (lg_cmp (a ^^^ b) (0 : Int64)) then (a / b) else (if (lg_cmp ((a / b) * b) a) = 0 then (a / b) else ((a / b) - (1 : Int64)))
set_option maxRecDepth 100000 in
set_option maxHeartbeats 4000000 in
theorem c_J9_floorDiv_f86c9 {G : Geo} {l : Launch} (hG : GOK G) {h : Hp} (a : Int64) (b : Int64) (hb : ¬ b = 0) : CM G l yJ9_floorDiv_f86c9 cJ9_floorDiv_f86c9 6 (some .long) 0 0 [.long a, .long b] h h (some (.long (S_J9_floorDiv_f86c9 a b))) := by
  obtain ⟨Z, hZ⟩ : ∃ Z, S_J9_floorDiv_f86c9 a b = Z := ⟨_, rfl⟩
  rw [hZ]
  refine q_enter hG mf_J9_floorDiv_f86c9 (Nat.le_of_ble_eq_true rfl) ?_
  intro p e s m below meth c X hret
  refine q_lv (lv2 := [(0, .long a), (2, .long b)]) rfl ?_
  refine q_lload_n X 0 dJ9_floorDiv_f86c9_0 rfl ?_
  refine q_lload_n X 1 dJ9_floorDiv_f86c9_1 rfl ?_
  refine q_ldiv X dJ9_floorDiv_f86c9_2 hb ?_
  refine q_lstore (lv' := [(4, .long (a / b)), (0, .long a), (2, .long b)]) X dJ9_floorDiv_f86c9_3 (by decide) rfl ?_
  refine q_lload_n X 1 dJ9_floorDiv_f86c9_5 rfl ?_
  refine q_lload_n X 2 dJ9_floorDiv_f86c9_6 rfl ?_
  refine q_lxor X dJ9_floorDiv_f86c9_7 ?_
  refine q_lconst (v := 0) X dJ9_floorDiv_f86c9_8 (by decide) ?_
  refine q_lcmp X dJ9_floorDiv_f86c9_9 ?_
  refine q_if_ge (tgt := 27) X dJ9_floorDiv_f86c9_10 (by decide) (fun c1 => ?_) (fun c1 => ?_)
  · skip
    refine q_lload X 0 dJ9_floorDiv_f86c9_27 rfl ?_
    have E : Z = a / b := by exact hZ.symm.trans ((if_pos c1).trans rfl)
    exact q_lret X hret dJ9_floorDiv_f86c9_29 (by rw [E]) rfl
  · skip
    refine q_lload X 0 dJ9_floorDiv_f86c9_13 rfl ?_
    refine q_lload_n X 2 dJ9_floorDiv_f86c9_15 rfl ?_
    refine q_lmul X dJ9_floorDiv_f86c9_16 ?_
    refine q_lload_n X 1 dJ9_floorDiv_f86c9_17 rfl ?_
    refine q_lcmp X dJ9_floorDiv_f86c9_18 ?_
    refine q_if_eq (tgt := 27) X dJ9_floorDiv_f86c9_19 (by decide) (fun c2 => ?_) (fun c2 => ?_)
    · skip
      refine q_lload X 0 dJ9_floorDiv_f86c9_27 rfl ?_
      have E : Z = a / b := by exact hZ.symm.trans ((if_neg c1).trans ((if_pos c2).trans rfl))
      exact q_lret X hret dJ9_floorDiv_f86c9_29 (by rw [E]) rfl
    · skip
      refine q_lload X 0 dJ9_floorDiv_f86c9_22 rfl ?_
      refine q_lconst (v := 1) X dJ9_floorDiv_f86c9_24 (by decide) ?_
      refine q_lsub X dJ9_floorDiv_f86c9_25 ?_
      have E : Z = (a / b) - (1 : Int64) := by exact hZ.symm.trans ((if_neg c1).trans ((if_neg c2).trans rfl))
      exact q_lret X hret dJ9_floorDiv_f86c9_26 (by rw [E]) rfl
def S_X9_inRange (a : Int32) (b : Int32) (d : Int32) : Int32 := if a < b then (0) else (if d < a then (0) else (1))
set_option maxRecDepth 100000 in
set_option maxHeartbeats 4000000 in
theorem c_X9_inRange {G : Geo} {l : Launch} (hG : GOK G) {h : Hp} (a : Int32) (b : Int32) (d : Int32)  : CM G l yX9_inRange cX9_inRange 3 (some .boolean) 0 0 [.int a, .int b, .int d] h h (some (.int (S_X9_inRange a b d))) := by
  obtain ⟨Z, hZ⟩ : ∃ Z, S_X9_inRange a b d = Z := ⟨_, rfl⟩
  rw [hZ]
  refine q_enter hG mf_X9_inRange (Nat.le_of_ble_eq_true rfl) ?_
  intro p e s m below meth c X hret
  refine q_lv (lv2 := [(0, .int a), (1, .int b), (2, .int d)]) rfl ?_
  refine q_iload_n X 0 dX9_inRange_0 rfl ?_
  refine q_iload_n X 1 dX9_inRange_1 rfl ?_
  refine q_icmp_lt (tgt := 14) X dX9_inRange_2 (by decide) (fun c1 => ?_) (fun c1 => ?_)
  · skip
    refine q_iconst (v := 0) X dX9_inRange_14 (by decide) ?_
    have E : Z = 0 := by exact hZ.symm.trans ((if_pos c1).trans rfl)
    exact q_zret X hret rfl dX9_inRange_15 (by rw [E]) rfl
  · skip
    refine q_iload_n X 0 dX9_inRange_5 rfl ?_
    refine q_iload_n X 2 dX9_inRange_6 rfl ?_
    refine q_icmp_gt (tgt := 14) X dX9_inRange_7 (by decide) (fun c2 => ?_) (fun c2 => ?_)
    · skip
      refine q_iconst (v := 0) X dX9_inRange_14 (by decide) ?_
      have E : Z = 0 := by exact hZ.symm.trans ((if_neg c1).trans ((if_pos c2).trans rfl))
      exact q_zret X hret rfl dX9_inRange_15 (by rw [E]) rfl
    · skip
      refine q_iconst (v := 1) X dX9_inRange_10 (by decide) ?_
      refine q_goto (tgt := 15) X dX9_inRange_11 (by decide) ?_
      have E : Z = 1 := by exact hZ.symm.trans ((if_neg c1).trans ((if_neg c2).trans rfl))
      exact q_zret X hret rfl dX9_inRange_15 (by rw [E]) rfl
theorem Z_X9_inRange (a : Int32) (b : Int32) (d : Int32) : (S_X9_inRange a b d) = 0 ∨ (S_X9_inRange a b d) = 1 := by
  unfold S_X9_inRange
  (repeat' split) <;> first | exact Or.inl rfl | exact Or.inr rfl
def S_X9_clamp (a : Int32) (b : Int32) (d : Int32) : Int32 := S_J9_max_7cf53 b (S_J9_min_7cf53 a d)
set_option maxRecDepth 100000 in
set_option maxHeartbeats 4000000 in
theorem c_X9_clamp {G : Geo} {l : Launch} (hG : GOK G) {h : Hp} (a : Int32) (b : Int32) (d : Int32)  : CM G l yX9_clamp cX9_clamp 3 (some .int) 1 21 [.int a, .int b, .int d] h h (some (.int (S_X9_clamp a b d))) := by
  obtain ⟨Z, hZ⟩ : ∃ Z, S_X9_clamp a b d = Z := ⟨_, rfl⟩
  rw [hZ]
  refine q_enter hG mf_X9_clamp (Nat.le_of_ble_eq_true rfl) ?_
  intro p e s m below meth c X hret
  refine q_lv (lv2 := [(0, .int a), (1, .int b), (2, .int d)]) rfl ?_
  refine q_iload_n X 1 dX9_clamp_0 rfl ?_
  refine q_iload_n X 0 dX9_clamp_1 rfl ?_
  refine q_iload_n X 2 dX9_clamp_2 rfl ?_
  refine q_callS (h1 := _) (rest := [.int b]) (As := [.int a, .int d]) X (c_J9_min_7cf53 (l := l) hG   a d ) mf_J9_min_7cf53 ms_J9_min_7cf53 lk_X9_175 rfl ⟨by decide, by decide⟩ ⟨Nat.le_refl _, Nat.le_refl _⟩ rfl (Nat.le_of_ble_eq_true rfl) dX9_clamp_3 (st2 := [.int (S_J9_min_7cf53 a d), .int b]) rfl ?_
  refine q_callS (h1 := _) (rest := []) (As := [.int b, .int (S_J9_min_7cf53 a d)]) X (c_J9_max_7cf53 (l := l) hG   b (S_J9_min_7cf53 a d) ) mf_J9_max_7cf53 ms_J9_max_7cf53 lk_X9_233 rfl ⟨by decide, by decide⟩ ⟨Nat.le_refl _, Nat.le_refl _⟩ rfl (Nat.le_of_ble_eq_true rfl) dX9_clamp_6 (st2 := [.int (S_J9_max_7cf53 b (S_J9_min_7cf53 a d))]) rfl ?_
  have E : Z = S_J9_max_7cf53 b (S_J9_min_7cf53 a d) := by exact hZ.symm.trans (rfl)
  exact q_iret X hret dX9_clamp_9 (by rw [E]) rfl
def S_X9_quotient (a : Int64) (b : Int64) : Int64 := let m2 : Int64 := if (lg_cmp b (0 : Int64)) ≤ 0 then ((0 : Int64)) else (S_J9_floorDiv_f86c9 a b); m2
set_option maxRecDepth 100000 in
set_option maxHeartbeats 4000000 in
theorem c_X9_quotient {G : Geo} {l : Launch} (hG : GOK G) {h : Hp} (a : Int64) (b : Int64)  : CM G l yX9_quotient cX9_quotient 4 (some .long) 1 25 [.long a, .long b] h h (some (.long (S_X9_quotient a b))) := by
  obtain ⟨Z, hZ⟩ : ∃ Z, S_X9_quotient a b = Z := ⟨_, rfl⟩
  rw [hZ]
  refine q_enter hG mf_X9_quotient (Nat.le_of_ble_eq_true rfl) ?_
  intro p e s m below meth c X hret
  refine q_lv (lv2 := [(0, .long a), (2, .long b)]) rfl ?_
  refine q_lload_n X 1 dX9_quotient_0 rfl ?_
  refine q_lconst (v := 0) X dX9_quotient_1 (by decide) ?_
  refine q_lcmp X dX9_quotient_2 ?_
  suffices hJ3 : ∀ (m2 : Int64), m2 = (if (lg_cmp b (0 : Int64)) ≤ 0 then ((0 : Int64)) else (S_J9_floorDiv_f86c9 a b)) → VV G (AA G) p l e { frames := 1, cells := 0, slots := 0, locals := 25 } s m ([.long a, .long b] : List Value).toArray below meth c 0 0 (MQ below (QC G h (some (.long Z))) ([.long a, .long b] : List Value).toArray s 0 0 (AA G)) 4 h 15 [(0, .long a), (2, .long b)] [.long m2] by
    refine q_if_le (tgt := 14) X dX9_quotient_3 (by decide) (fun c1 => ?_) (fun c1 => ?_)
    · skip
      refine q_lconst (v := 0) X dX9_quotient_14 (by decide) ?_
      refine q_sub (lv2 := [(0, .long a), (2, .long b)]) [0, 1] rfl ?_
      exact hJ3 (0 : Int64) (by exact ((if_pos c1).trans rfl).symm)
    · skip
      refine q_lload_n X 0 dX9_quotient_6 rfl ?_
      refine q_lload_n X 1 dX9_quotient_7 rfl ?_
      refine q_callS (h1 := _) (rest := []) (As := [.long a, .long b]) X (c_J9_floorDiv_f86c9 (l := l) hG   a b (lgc_ne c1)) mf_J9_floorDiv_f86c9 ms_J9_floorDiv_f86c9 lk_X9_236 rfl ⟨by decide, by decide⟩ ⟨Nat.le_refl _, Nat.le_refl _⟩ rfl (Nat.le_of_ble_eq_true rfl) dX9_quotient_8 (st2 := [.long (S_J9_floorDiv_f86c9 a b)]) rfl ?_
      refine q_goto (tgt := 15) X dX9_quotient_11 (by decide) ?_
      refine q_sub (lv2 := [(0, .long a), (2, .long b)]) [0, 1] rfl ?_
      exact hJ3 (S_J9_floorDiv_f86c9 a b) (by exact ((if_neg c1).trans rfl).symm)
  intro m2 e_m2
  have E : Z = m2 := by subst e_m2; exact hZ.symm.trans (rfl)
  exact q_lret X hret dX9_quotient_15 (by rw [E]) rfl
def S_X10_in (a : Int32) (b : Int32) (d : Int32) : Int32 := if a < b then (0) else (if d < a then (0) else (1))
set_option maxRecDepth 100000 in
set_option maxHeartbeats 4000000 in
theorem c_X10_in {G : Geo} {l : Launch} (hG : GOK G) {h : Hp} (a : Int32) (b : Int32) (d : Int32)  : CM G l yX10_in cX10_in 3 (some .boolean) 0 0 [.int a, .int b, .int d] h h (some (.int (S_X10_in a b d))) := by
  obtain ⟨Z, hZ⟩ : ∃ Z, S_X10_in a b d = Z := ⟨_, rfl⟩
  rw [hZ]
  refine q_enter hG mf_X10_in (Nat.le_of_ble_eq_true rfl) ?_
  intro p e s m below meth c X hret
  refine q_lv (lv2 := [(0, .int a), (1, .int b), (2, .int d)]) rfl ?_
  refine q_iload_n X 0 dX10_in_0 rfl ?_
  refine q_iload_n X 1 dX10_in_1 rfl ?_
  refine q_icmp_lt (tgt := 14) X dX10_in_2 (by decide) (fun c1 => ?_) (fun c1 => ?_)
  · skip
    refine q_iconst (v := 0) X dX10_in_14 (by decide) ?_
    have E : Z = 0 := by exact hZ.symm.trans ((if_pos c1).trans rfl)
    exact q_zret X hret rfl dX10_in_15 (by rw [E]) rfl
  · skip
    refine q_iload_n X 0 dX10_in_5 rfl ?_
    refine q_iload_n X 2 dX10_in_6 rfl ?_
    refine q_icmp_gt (tgt := 14) X dX10_in_7 (by decide) (fun c2 => ?_) (fun c2 => ?_)
    · skip
      refine q_iconst (v := 0) X dX10_in_14 (by decide) ?_
      have E : Z = 0 := by exact hZ.symm.trans ((if_neg c1).trans ((if_pos c2).trans rfl))
      exact q_zret X hret rfl dX10_in_15 (by rw [E]) rfl
    · skip
      refine q_iconst (v := 1) X dX10_in_10 (by decide) ?_
      refine q_goto (tgt := 15) X dX10_in_11 (by decide) ?_
      have E : Z = 1 := by exact hZ.symm.trans ((if_neg c1).trans ((if_neg c2).trans rfl))
      exact q_zret X hret rfl dX10_in_15 (by rw [E]) rfl
theorem Z_X10_in (a : Int32) (b : Int32) (d : Int32) : (S_X10_in a b d) = 0 ∨ (S_X10_in a b d) = 1 := by
  unfold S_X10_in
  (repeat' split) <;> first | exact Or.inl rfl | exact Or.inr rfl
def S_X10_down (a : Int32) (b : Int32) : Int32 := let m2 : Int32 := if 0 ≤ (a - a / b * b) then (a / b) else ((a / b) - 1); m2
set_option maxRecDepth 100000 in
set_option maxHeartbeats 4000000 in
theorem c_X10_down {G : Geo} {l : Launch} (hG : GOK G) {h : Hp} (a : Int32) (b : Int32) (hb : ¬ b = 0) : CM G l yX10_down cX10_down 3 (some .int) 0 0 [.int a, .int b] h h (some (.int (S_X10_down a b))) := by
  obtain ⟨Z, hZ⟩ : ∃ Z, S_X10_down a b = Z := ⟨_, rfl⟩
  rw [hZ]
  refine q_enter hG mf_X10_down (Nat.le_of_ble_eq_true rfl) ?_
  intro p e s m below meth c X hret
  refine q_lv (lv2 := [(0, .int a), (1, .int b)]) rfl ?_
  refine q_iload_n X 0 dX10_down_0 rfl ?_
  refine q_iload_n X 1 dX10_down_1 rfl ?_
  refine q_idiv X dX10_down_2 hb ?_
  refine q_istore_n (lv' := [(2, .int (a / b)), (0, .int a), (1, .int b)]) X dX10_down_3 (by decide) rfl ?_
  refine q_iload_n X 1 dX10_down_4 rfl ?_
  refine q_iload_n X 2 dX10_down_5 rfl ?_
  refine q_irem X dX10_down_6 hb ?_
  suffices hJ3 : ∀ (m2 : Int32), m2 = (if 0 ≤ (a - a / b * b) then (a / b) else ((a / b) - 1)) → VV G (AA G) p l e { frames := 0, cells := 0, slots := 0, locals := 0 } s m ([.int a, .int b] : List Value).toArray below meth c 0 0 (MQ below (QC G h (some (.int Z))) ([.int a, .int b] : List Value).toArray s 0 0 (AA G)) 3 h 17 [(2, .int (a / b)), (0, .int a), (1, .int b)] [.int m2] by
    refine q_if_ge (tgt := 16) X dX10_down_7 (by decide) (fun c1 => ?_) (fun c1 => ?_)
    · skip
      refine q_iload_n X 0 dX10_down_16 rfl ?_
      refine q_sub (lv2 := [(2, .int (a / b)), (0, .int a), (1, .int b)]) [0, 1, 2] rfl ?_
      exact hJ3 (a / b) (by exact ((if_pos c1).trans rfl).symm)
    · skip
      refine q_iload_n X 0 dX10_down_10 rfl ?_
      refine q_iconst (v := 1) X dX10_down_11 (by decide) ?_
      refine q_isub X dX10_down_12 ?_
      refine q_goto (tgt := 17) X dX10_down_13 (by decide) ?_
      refine q_sub (lv2 := [(2, .int (a / b)), (0, .int a), (1, .int b)]) [0, 1, 2] rfl ?_
      exact hJ3 ((a / b) - 1) (by exact ((if_neg c1).trans rfl).symm)
  intro m2 e_m2
  have E : Z = m2 := by subst e_m2; exact hZ.symm.trans (rfl)
  exact q_iret X hret dX10_down_17 (by rw [E]) rfl
def S_X10_clamp (a : Int32) (b : Int32) (d : Int32) : Int32 := let m2 : Int32 := if b ≤ a then (if a ≤ d then (a) else (d)) else (b); m2
set_option maxRecDepth 100000 in
set_option maxHeartbeats 4000000 in
theorem c_X10_clamp {G : Geo} {l : Launch} (hG : GOK G) {h : Hp} (a : Int32) (b : Int32) (d : Int32)  : CM G l yX10_clamp cX10_clamp 3 (some .int) 0 0 [.int a, .int b, .int d] h h (some (.int (S_X10_clamp a b d))) := by
  obtain ⟨Z, hZ⟩ : ∃ Z, S_X10_clamp a b d = Z := ⟨_, rfl⟩
  rw [hZ]
  refine q_enter hG mf_X10_clamp (Nat.le_of_ble_eq_true rfl) ?_
  intro p e s m below meth c X hret
  refine q_lv (lv2 := [(0, .int a), (1, .int b), (2, .int d)]) rfl ?_
  refine q_iload_n X 0 dX10_clamp_0 rfl ?_
  refine q_iload_n X 1 dX10_clamp_1 rfl ?_
  suffices hJ4 : ∀ (m2 : Int32), m2 = (if b ≤ a then (if a ≤ d then (a) else (d)) else (b)) → VV G (AA G) p l e { frames := 0, cells := 0, slots := 0, locals := 0 } s m ([.int a, .int b, .int d] : List Value).toArray below meth c 0 0 (MQ below (QC G h (some (.int Z))) ([.int a, .int b, .int d] : List Value).toArray s 0 0 (AA G)) 3 h 19 [(0, .int a), (1, .int b), (2, .int d)] [.int m2] by
    refine q_icmp_ge (tgt := 9) X dX10_clamp_2 (by decide) (fun c1 => ?_) (fun c1 => ?_)
    · skip
      refine q_iload_n X 0 dX10_clamp_9 rfl ?_
      refine q_iload_n X 2 dX10_clamp_10 rfl ?_
      refine q_icmp_le (tgt := 18) X dX10_clamp_11 (by decide) (fun c3 => ?_) (fun c3 => ?_)
      · skip
        refine q_iload_n X 0 dX10_clamp_18 rfl ?_
        refine q_sub (lv2 := [(0, .int a), (1, .int b), (2, .int d)]) [0, 1, 2] rfl ?_
        exact hJ4 a (by exact ((if_pos c1).trans ((if_pos c3).trans rfl)).symm)
      · skip
        refine q_iload_n X 2 dX10_clamp_14 rfl ?_
        refine q_goto (tgt := 19) X dX10_clamp_15 (by decide) ?_
        refine q_sub (lv2 := [(0, .int a), (1, .int b), (2, .int d)]) [0, 1, 2] rfl ?_
        exact hJ4 d (by exact ((if_pos c1).trans ((if_neg c3).trans rfl)).symm)
    · skip
      refine q_iload_n X 1 dX10_clamp_5 rfl ?_
      refine q_goto (tgt := 19) X dX10_clamp_6 (by decide) ?_
      refine q_sub (lv2 := [(0, .int a), (1, .int b), (2, .int d)]) [0, 1, 2] rfl ?_
      exact hJ4 b (by exact ((if_neg c1).trans rfl).symm)
  intro m2 e_m2
  have E : Z = m2 := by subst e_m2; exact hZ.symm.trans (rfl)
  exact q_iret X hret dX10_clamp_19 (by rw [E]) rfl
/-- the class's own at, put and copyRow, of any int array of the arena -/
def S_at (row : Nat → Int32) (o t n : Nat) (i : Int32) : Int32 := if i < 0 then 0 else if Int32.ofNat n ≤ i then 0 else row (o + t * i.toNatClampNeg)
def S_put (row : Nat → Int32) (o t n : Nat) (i v : Int32) : Nat → Int32 := if i < 0 then row else if Int32.ofNat n ≤ i then row else va_up row (o + t * i.toNatClampNeg) v
def S_copy (frm row : Nat → Int32) (o t n : Nat) : Nat → Int32 := fun k => if o ≤ k ∧ (k - o) % t = 0 ∧ (k - o) / t < n then frm k else row k
theorem vin_n {i : Int32} {n : Nat} (hn : n < 2 ^ 31) (h0 : ¬ i < 0) (h1 : ¬ Int32.ofNat n ≤ i) : vp_in i n := by
  refine vin_of h0 ?_
  have a : (0 : Int) ≤ i.toInt := by
    have := Int32.not_lt.mp h0
    rw [Int32.le_iff_toInt_le] at this
    simpa using this
  have b : i.toInt < n := by
    have := Int32.not_le.mp h1
    rw [Int32.lt_iff_toInt_lt, Int32.toInt_ofNat_of_lt hn] at this
    exact this
  have c : (i.toNatClampNeg : Int) = i.toInt := by
    show ((i.toInt.toNat : Nat) : Int) = i.toInt
    omega
  omega
theorem ar_n_lt (T g : Nat) : ar_n T g < 2 ^ 31 := by
  unfold ar_n
  split <;> first | decide | (split <;> decide)
set_option maxRecDepth 100000 in
set_option maxHeartbeats 4000000 in
theorem c_X9_at {G : Geo} {l : Launch} (hG : GOK G) {g j o t n : Nat} {h : Hp} {row : Nat → Int32} (i : Int32) (hc : ar_cell (gT G g) j = some (.inr (.inl (o, t)))) (hr : h g = row) (hn : ar_n (gT G g) g = n) : CM G l yX9_at cX9_at 2 (some .int) 0 0 [.ref (gA G g j), .int i] h h (some (.int (S_at row o t n i))) := by
  subst hn
  refine q_enter hG mf_X9_at (Nat.le_of_ble_eq_true rfl) ?_
  intro p e s m below meth c X hret
  refine q_lv (lv2 := [(0, .ref (gA G g j)), (1, .int i)]) rfl ?_
  refine q_iload_n X 1 dX9_at_0 rfl ?_
  refine q_if_lt (tgt := 16) X dX9_at_1 (by decide) (fun c1 => ?_) (fun c1 => ?_)
  · refine q_iconst (v := 0) X dX9_at_16 (by decide) ?_
    exact q_iret X hret dX9_at_17 (by rw [S_at, if_pos c1]) rfl
  · refine q_iload_n X 1 dX9_at_4 rfl ?_
    refine q_aload_n X 0 dX9_at_5 rfl ?_
    refine q_alen X hc dX9_at_6 rfl ?_
    refine q_icmp_ge (tgt := 16) X dX9_at_7 (by decide) (fun c2 => ?_) (fun c2 => ?_)
    · refine q_iconst (v := 0) X dX9_at_16 (by decide) ?_
      exact q_iret X hret dX9_at_17 (by rw [S_at, if_neg c1, if_pos c2]) rfl
    · refine q_aload_n X 0 dX9_at_10 rfl ?_
      refine q_iload_n X 1 dX9_at_11 rfl ?_
      refine q_iald X hc (vin_n (ar_n_lt _ _) c1 c2) dX9_at_12 hr rfl ?_
      refine q_goto (tgt := 17) X dX9_at_13 (by decide) ?_
      exact q_iret X hret dX9_at_17 (by rw [S_at, if_neg c1, if_neg c2]) rfl
set_option maxRecDepth 100000 in
set_option maxHeartbeats 4000000 in
theorem c_X9_put {G : Geo} {l : Launch} (hG : GOK G) {g j o t n : Nat} {h : Hp} {row : Nat → Int32} (i v : Int32) (hc : ar_cell (gT G g) j = some (.inr (.inl (o, t)))) (hr : h g = row) (hn : ar_n (gT G g) g = n) : CM G l yX9_put cX9_put 3 none 0 0 [.ref (gA G g j), .int i, .int v] h (va_up h g (S_put row o t n i v)) none := by
  subst hn
  refine q_enter hG mf_X9_put (Nat.le_of_ble_eq_true rfl) ?_
  intro p e s m below meth c X hret
  refine q_lv (lv2 := [(0, .ref (gA G g j)), (1, .int i), (2, .int v)]) rfl ?_
  refine q_iload_n X 1 dX9_put_0 rfl ?_
  refine q_if_lt (tgt := 14) X dX9_put_1 (by decide) (fun c1 => ?_) (fun c1 => ?_)
  · exact q_vret X hret dX9_put_14 rfl (by rw [S_put, if_pos c1]; exact va_up_id2 hr)
  · refine q_iload_n X 1 dX9_put_4 rfl ?_
    refine q_aload_n X 0 dX9_put_5 rfl ?_
    refine q_alen X hc dX9_put_6 rfl ?_
    refine q_icmp_ge (tgt := 14) X dX9_put_7 (by decide) (fun c2 => ?_) (fun c2 => ?_)
    · exact q_vret X hret dX9_put_14 rfl (by rw [S_put, if_neg c1, if_pos c2]; exact va_up_id2 hr)
    · refine q_aload_n X 0 dX9_put_10 rfl ?_
      refine q_iload_n X 1 dX9_put_11 rfl ?_
      refine q_iload_n X 2 dX9_put_12 rfl ?_
      refine q_iast X hc (vin_n (ar_n_lt _ _) c1 c2) dX9_put_13 hr rfl ?_
      exact q_vret X hret dX9_put_14 rfl (by rw [S_put, if_neg c1, if_neg c2])
theorem oN_clamp {n : Nat} (hn : n < 2 ^ 31) : (Int32.ofNat n).toNatClampNeg = n := by
  show (Int32.ofNat n).toInt.toNat = n
  rw [Int32.toInt_ofNat_of_lt hn]
  rfl
theorem S_copy_arr {frm row : Nat → Int32} {o t n : Nat} (ht : 0 < t) : (fun k => S_copy frm row o t n (o + t * k)) = va_cpy (fun k => frm (o + t * k)) (fun k => row (o + t * k)) 0 0 n := by
  funext k
  unfold S_copy va_cpy
  have e1 : (o + t * k - o) % t = 0 := by rw [Nat.add_sub_cancel_left, Nat.mul_mod_right]
  have e2 : (o + t * k - o) / t = k := by rw [Nat.add_sub_cancel_left, Nat.mul_div_cancel_left _ ht]
  by_cases h : k < n
  · rw [if_pos ⟨Nat.le_add_right _ _, e1, by rw [e2]; exact h⟩, if_pos ⟨Nat.zero_le _, by omega⟩, Nat.zero_add, Nat.sub_zero]
  · rw [if_neg (fun z => h (by rw [← e2]; exact z.2.2)), if_neg (fun z => h (by omega))]
theorem S_copy_oth {frm row : Nat → Int32} {T j o t n : Nat} (hc : ar_cell T j = some (.inr (.inl (o, t)))) {j' sl : Nat} (hn : j' ≠ j) (hc' : ar_cell T j' ≠ none) (hu : ar_uses T j' sl = true) : S_copy frm row o t n sl = row sl := by
  unfold S_copy
  refine if_neg (fun z => ?_)
  have h1 := (ar_arr_one ((sl - o) / t) hc).2
  have h2 : o + t * ((sl - o) / t) = sl := by
    have := Nat.div_add_mod (sl - o) t
    omega
  rw [h2] at h1
  rw [ar_one_use h1 hn hc'] at hu
  cases hu
set_option maxRecDepth 100000 in
set_option maxHeartbeats 4000000 in
theorem c_X9_copyRow {G : Geo} {l : Launch} (hG : GOK G) {g g' j o t n : Nat} {h : Hp} {frm row : Nat → Int32} (hc : ar_cell (gT G g) j = some (.inr (.inl (o, t)))) (hc' : ar_cell (gT G g') j = some (.inr (.inl (o, t)))) (hr : h g = frm) (hr' : h g' = row) (hn : ar_n (gT G g) g = n) (hn' : ar_n (gT G g') g' = n) : CM G l yX9_copyRow cX9_copyRow 2 none 1 60 [.ref (gA G g j), .ref (gA G g' j)] h (va_up h g' (S_copy frm row o t n)) none := by
  have hnl : n < 2 ^ 31 := by rw [← hn]; exact ar_n_lt _ _
  refine q_enter hG mf_X9_copyRow (Nat.le_of_ble_eq_true rfl) ?_
  intro p e s m below meth c X hret
  refine q_lv (lv2 := [(0, .ref (gA G g j)), (1, .ref (gA G g' j))]) rfl ?_
  refine q_aload_n X 0 dX9_copyRow_0 rfl ?_
  refine q_iconst (v := 0) X dX9_copyRow_1 (by decide) ?_
  refine q_aload_n X 1 dX9_copyRow_2 rfl ?_
  refine q_iconst (v := 0) X dX9_copyRow_3 (by decide) ?_
  refine q_aload_n X 0 dX9_copyRow_4 rfl ?_
  refine q_alen (x := Int32.ofNat n) X hc dX9_copyRow_5 (by rw [hn]) ?_
  refine q_aload_n X 1 dX9_copyRow_6 rfl ?_
  refine q_alen (x := Int32.ofNat n) X hc' dX9_copyRow_7 (by rw [hn']) ?_
  refine q_callS (rest := [.int 0, .ref (gA G g' j), .int 0, .ref (gA G g j)]) (As := [.int (Int32.ofNat n), .int (Int32.ofNat n)]) X (c_J9_min_7cf53 (l := l) hG (Int32.ofNat n) (Int32.ofNat n)) mf_J9_min_7cf53 ms_J9_min_7cf53 lk_X9_175 rfl ⟨by decide, by decide⟩ ⟨Nat.le_refl _, Nat.le_refl _⟩ rfl (Nat.le_of_ble_eq_true rfl) dX9_copyRow_8 (st2 := [.int (Int32.ofNat n), .int 0, .ref (gA G g' j), .int 0, .ref (gA G g j)]) (by show [Value.int (S_J9_min_7cf53 (Int32.ofNat n) (Int32.ofNat n)), _, _, _, _] = _; rw [show S_J9_min_7cf53 (Int32.ofNat n) (Int32.ofNat n) = Int32.ofNat n from by show (if Int32.ofNat n < Int32.ofNat n then Int32.ofNat n else Int32.ofNat n) = _; split <;> rfl]) ?_
  have ht := (ar_arr_one 0 hc).1
  have h3 : ¬ Int32.ofNat n < 0 := by
    rw [Int32.lt_iff_toInt_lt, Int32.toInt_ofNat_of_lt hnl]
    show ¬ (n : Int) < 0
    omega
  refine q_copy (rest := []) (h2 := va_up h g' (S_copy frm row o t n)) X hc hc' lk_copy h3 (by rw [oN_clamp hnl, hn]; exact Nat.le_refl _) (by rw [oN_clamp hnl, hn']; exact Nat.le_refl _) ⟨by decide, by decide⟩ dX9_copyRow_11 ?_ ?_ ?_
  · unfold ar_e
    rw [hc', oN_clamp hnl, hr, hr']
    show Sum.inl (gI G, ar_n (gT G g') g', Sum.inl (fun k => va_up h g' (S_copy frm row o t n) g' (o + t * k))) = _
    rw [va_up_self, S_copy_arr ht]
  · intro a b hab hne
    refine ar_cong (fun sl hs => ?_)
    by_cases ha : a = g'
    · subst ha
      rw [va_up_self, S_copy_oth hc' (fun z => hne ⟨rfl, z⟩) hab hs, hr']
    · rw [va_up_ne _ _ ha]
  · exact q_vret X hret dX9_copyRow_14 rfl rfl
end
section
/-! measures of the loops -/
theorem ms_up {a k : Int32} {f : Nat} (h : ¬ a ≤ k) (hm : (a.toInt - k.toInt).toNat < f + 1) : (a.toInt - (k + 1).toInt).toNat < f := by
  have h1 := Int32.not_le.mp h
  rw [Int32.lt_iff_toInt_lt] at h1
  have h2 : (k + 1).toInt = k.toInt + 1 := by
    rw [Int32.toInt_add, show (1 : Int32).toInt = 1 from rfl]
    have a1 := Int32.le_toInt k
    have a2 := Int32.toInt_lt a
    exact Int.bmod_eq_of_le (by omega) (by omega)
  omega
theorem ms_dn {a k : Int32} {f : Nat} (h : ¬ k ≤ a) (hm : (k.toInt - a.toInt).toNat < f + 1) : ((k + (-1)).toInt - a.toInt).toNat < f := by
  have h1 := Int32.not_le.mp h
  rw [Int32.lt_iff_toInt_lt] at h1
  have h2 : (k + (-1)).toInt = k.toInt - 1 := by
    rw [Int32.toInt_add, show (-1 : Int32).toInt = -1 from rfl]
    have a1 := Int32.toInt_lt k
    have a2 := Int32.le_toInt a
    exact Int.bmod_eq_of_le (by omega) (by omega)
  omega
theorem S_put_lo {row : Nat → Int32} {o t n sl : Nat} {i v : Int32} (h : sl < o) : S_put row o t n i v sl = row sl := by
  unfold S_put
  split
  · rfl
  · split
    · rfl
    · exact va_up_ne _ _ (by omega)
theorem S_copy_lo {frm row : Nat → Int32} {o t n sl : Nat} (h : sl < o) : S_copy frm row o t n sl = row sl := by
  unfold S_copy
  exact if_neg (fun z => absurd z.1 (by omega))
def L_X6_indexBelow_4 (fu : Nat) (ρ : Nat → Int32) (n : Nat) (key : Int32) (ix : Int32) (k : Int32) : Int32 := match fu with
  | 0 => 0
  | fu + 1 => if (ρ 0) ≤ k then (ix) else (if key < (S_at ρ 1 2 n k) then (ix) else (L_X6_indexBelow_4 fu ρ n key k (k + 1)))
def S_X6_indexBelow (ρ : Nat → Int32) (n : Nat) (key : Int32) : Int32 := L_X6_indexBelow_4 (((ρ 0).toInt - (0 : Int32).toInt).toNat + 1) ρ n key (-1) 0
set_option maxRecDepth 100000 in
set_option maxHeartbeats 4000000 in
theorem w_X6_indexBelow_4 {G : Geo} {p : Program} {l : Launch} {e : Env} {s : State} {m : MethodId} {args : Array Value} {below : List Frame} {meth : Method} {c : Code} {h : Hp} {g : Nat} {ρ : Nat → Int32} {n : Nat} {key : Int32} (X : CX G (AA G) p s m meth c RX6 cX6_indexBelow 4) (hret : meth.sig.returnType = (some .int)) (hT_g : gT G g = 3) (hr_g : h g = ρ) (hn_g : ar_n (gT G g) g = n) (Z : Int32) : ∀ (fu : Nat) (ix : Int32) (k : Int32), ((ρ 0).toInt - k.toInt).toNat < fu → L_X6_indexBelow_4 fu ρ n key ix k = Z → VV G (AA G) p l e { frames := 1, cells := 0, slots := 0, locals := 21 } s m args below meth c 0 0 (MQ below (QC G h (some (.int Z))) args s 0 0 (AA G)) 4 h 4 [(0, .ref (gA G g 0)), (1, .int key), (2, .int ix), (3, .int k)] [] := by
  intro fu
  induction fu with
  | zero =>
    intro ix k  hm
    exact absurd hm (Nat.not_lt_zero _)
  | succ fu ih =>
    intro ix k  hm hZ
    have hG := X.2.2.2.2.2.1
    refine q_iload_n X 3 dX6_indexBelow_4 rfl ?_
    refine q_aload_n X 0 dX6_indexBelow_5 rfl ?_
    refine q_geti (fk := 2) (x := ρ 0) X cf_X6 (ac_3_0 hT_g) (by decide) fl_X6_7 rfl rfl dX6_indexBelow_6 (hr_g) rfl ?_
    refine q_icmp_ge (tgt := 32) X dX6_indexBelow_9 (by decide) (fun c1 => ?_) (fun c1 => ?_)
    · skip
      refine q_iload_n X 2 dX6_indexBelow_32 rfl ?_
      have E : Z = ix := by exact hZ.symm.trans ((if_pos c1).trans rfl)
      exact q_iret X hret dX6_indexBelow_33 (by rw [E]) rfl
    · skip
      refine q_aload_n X 0 dX6_indexBelow_12 rfl ?_
      refine q_get (fk := 0) (v := .ref (gA G g 1)) X cf_X6 (ac_3_0 hT_g) (by decide) fl_X6_19 rfl rfl dX6_indexBelow_13 rfl ?_
      refine q_iload_n X 3 dX6_indexBelow_16 rfl ?_
      refine q_callSN (h1 := _) (rest := []) (As := [.ref (gA G g 1), .int k]) X (c_X9_at (l := l) hG (n := n) (row := ρ) k (ac_3_1 hT_g) (hr_g) hn_g) mf_X9_at ms_X9_at ln_X6_35 rfl ⟨by decide, by decide⟩ ⟨Nat.le_refl _, Nat.le_refl _⟩ rfl (Nat.le_of_ble_eq_true rfl) dX6_indexBelow_17 (st2 := [.int (S_at ρ 1 2 n k)]) rfl ?_
      refine q_iload_n X 1 dX6_indexBelow_20 rfl ?_
      refine q_icmp_gt (tgt := 32) X dX6_indexBelow_21 (by decide) (fun c2 => ?_) (fun c2 => ?_)
      · skip
        refine q_iload_n X 2 dX6_indexBelow_32 rfl ?_
        have E : Z = ix := by exact hZ.symm.trans ((if_neg c1).trans ((if_pos c2).trans rfl))
        exact q_iret X hret dX6_indexBelow_33 (by rw [E]) rfl
      · skip
        refine q_iload_n X 3 dX6_indexBelow_24 rfl ?_
        refine q_istore_n (lv' := [(2, .int k), (0, .ref (gA G g 0)), (1, .int key), (3, .int k)]) X dX6_indexBelow_25 (by decide) rfl ?_
        refine q_iinc (v := k + 1) (lv' := [(3, .int (k + 1)), (2, .int k), (0, .ref (gA G g 0)), (1, .int key)]) X 3 dX6_indexBelow_26 rfl rfl (by decide) rfl ?_
        refine q_goto (tgt := 4) X dX6_indexBelow_29 (by decide) ?_
        refine q_sub (lv2 := [(0, .ref (gA G g 0)), (1, .int key), (2, .int k), (3, .int (k + 1))]) [2, 3, 1, 0] rfl ?_
        have E : L_X6_indexBelow_4 fu ρ n key k (k + 1) = Z := Eq.trans (Eq.symm (by exact (if_neg c1).trans ((if_neg c2).trans rfl))) hZ
        exact ih k (k + 1)  (by exact ms_up c1 hm) E
set_option maxRecDepth 100000 in
set_option maxHeartbeats 4000000 in
theorem c_X6_indexBelow {G : Geo} {l : Launch} (hG : GOK G) {g : Nat} {h : Hp} {ρ : Nat → Int32} {n : Nat} (key : Int32) (hT_g : gT G g = 3) (hr_g : h g = ρ) (hn_g : ar_n (gT G g) g = n) : CM G l yX6_indexBelow cX6_indexBelow 4 (some .int) 1 21 [.ref (gA G g 0), .int key] h h (some (.int (S_X6_indexBelow ρ n key))) := by
  obtain ⟨Z, hZ⟩ : ∃ Z, S_X6_indexBelow ρ n key = Z := ⟨_, rfl⟩
  rw [hZ]
  refine q_enter hG mf_X6_indexBelow (Nat.le_of_ble_eq_true rfl) ?_
  intro p e s m below meth c X hret
  refine q_lv (lv2 := [(0, .ref (gA G g 0)), (1, .int key)]) rfl ?_
  refine q_iconst (v := (-1)) X dX6_indexBelow_0 (by decide) ?_
  refine q_istore_n (lv' := [(2, .int (-1)), (0, .ref (gA G g 0)), (1, .int key)]) X dX6_indexBelow_1 (by decide) rfl ?_
  refine q_iconst (v := 0) X dX6_indexBelow_2 (by decide) ?_
  refine q_istore_n (lv' := [(3, .int 0), (2, .int (-1)), (0, .ref (gA G g 0)), (1, .int key)]) X dX6_indexBelow_3 (by decide) rfl ?_
  refine q_sub (lv2 := [(0, .ref (gA G g 0)), (1, .int key), (2, .int (-1)), (3, .int 0)]) [2, 3, 1, 0] rfl ?_
  have E : L_X6_indexBelow_4 (((ρ 0).toInt - (0 : Int32).toInt).toNat + 1) ρ n key (-1) 0 = Z := Eq.trans (Eq.symm (by exact rfl)) hZ
  exact w_X6_indexBelow_4 X hret hT_g hr_g hn_g Z (((ρ 0).toInt - (0 : Int32).toInt).toNat + 1) (-1) 0  (by exact Nat.lt_succ_self _) E
def S_X6_has (ρ : Nat → Int32) (n : Nat) (key : Int32) : Int32 := if (S_X6_indexBelow ρ n key) < 0 then (0) else (if (S_at ρ 1 2 n (S_X6_indexBelow ρ n key)) = key then (1) else (0))
set_option maxRecDepth 100000 in
set_option maxHeartbeats 4000000 in
theorem c_X6_has {G : Geo} {l : Launch} (hG : GOK G) {g : Nat} {h : Hp} {ρ : Nat → Int32} {n : Nat} (key : Int32) (hT_g : gT G g = 3) (hr_g : h g = ρ) (hn_g : ar_n (gT G g) g = n) : CM G l yX6_has cX6_has 3 (some .boolean) 2 44 [.ref (gA G g 0), .int key] h h (some (.int (S_X6_has ρ n key))) := by
  obtain ⟨Z, hZ⟩ : ∃ Z, S_X6_has ρ n key = Z := ⟨_, rfl⟩
  rw [hZ]
  refine q_enter hG mf_X6_has (Nat.le_of_ble_eq_true rfl) ?_
  intro p e s m below meth c X hret
  refine q_lv (lv2 := [(0, .ref (gA G g 0)), (1, .int key)]) rfl ?_
  refine q_aload_n X 0 dX6_has_0 rfl ?_
  refine q_iload_n X 1 dX6_has_1 rfl ?_
  refine q_callV (h1 := _) (rest := []) (As := [.int key]) X (c_X6_indexBelow (l := l) hG (ρ := ρ) (n := n) key hT_g (hr_g) hn_g) mf_X6_indexBelow mv_X6_indexBelow cf_X6 rfl (ac_3_0 hT_g) lk_X6_39 rfl ⟨by decide, by decide⟩ ⟨Nat.le_refl _, Nat.le_refl _⟩ rfl (Nat.le_of_ble_eq_true rfl) dX6_has_2 (st2 := [.int (S_X6_indexBelow ρ n key)]) rfl ?_
  refine q_istore_n (lv' := [(2, .int (S_X6_indexBelow ρ n key)), (0, .ref (gA G g 0)), (1, .int key)]) X dX6_has_5 (by decide) rfl ?_
  refine q_iload_n X 0 dX6_has_6 rfl ?_
  refine q_if_lt (tgt := 26) X dX6_has_7 (by decide) (fun c1 => ?_) (fun c1 => ?_)
  · skip
    refine q_iconst (v := 0) X dX6_has_26 (by decide) ?_
    have E : Z = 0 := by exact hZ.symm.trans ((if_pos c1).trans rfl)
    exact q_zret X hret rfl dX6_has_27 (by rw [E]) rfl
  · skip
    refine q_aload_n X 1 dX6_has_10 rfl ?_
    refine q_get (fk := 0) (v := .ref (gA G g 1)) X cf_X6 (ac_3_0 hT_g) (by decide) fl_X6_19 rfl rfl dX6_has_11 rfl ?_
    refine q_iload_n X 0 dX6_has_14 rfl ?_
    refine q_callSN (h1 := _) (rest := []) (As := [.ref (gA G g 1), .int (S_X6_indexBelow ρ n key)]) X (c_X9_at (l := l) hG (n := n) (row := ρ) (S_X6_indexBelow ρ n key) (ac_3_1 hT_g) (hr_g) hn_g) mf_X9_at ms_X9_at ln_X6_35 rfl ⟨by decide, by decide⟩ ⟨Nat.le_refl _, Nat.le_refl _⟩ rfl (Nat.le_of_ble_eq_true rfl) dX6_has_15 (st2 := [.int (S_at ρ 1 2 n (S_X6_indexBelow ρ n key))]) rfl ?_
    refine q_iload_n X 2 dX6_has_18 rfl ?_
    refine q_icmp_ne (tgt := 26) X dX6_has_19 (by decide) (fun c2 => ?_) (fun c2 => ?_)
    · skip
      refine q_iconst (v := 0) X dX6_has_26 (by decide) ?_
      have E : Z = 0 := by exact hZ.symm.trans ((if_neg c1).trans ((if_neg c2).trans rfl))
      exact q_zret X hret rfl dX6_has_27 (by rw [E]) rfl
    · skip
      refine q_iconst (v := 1) X dX6_has_22 (by decide) ?_
      refine q_goto (tgt := 27) X dX6_has_23 (by decide) ?_
      have E : Z = 1 := by exact hZ.symm.trans ((if_neg c1).trans ((if_pos c2).trans rfl))
      exact q_zret X hret rfl dX6_has_27 (by rw [E]) rfl
theorem Z_X6_has (ρ : Nat → Int32) (n : Nat) (key : Int32) : (S_X6_has ρ n key) = 0 ∨ (S_X6_has ρ n key) = 1 := by
  unfold S_X6_has
  (repeat' split) <;> first | exact Or.inl rfl | exact Or.inr rfl
def S_X6_hasRoomFor (ρ : Nat → Int32) (n : Nat) (key : Int32) : Int32 := if (ρ 0) < (Int32.ofNat n) then (1) else (if (S_X6_has ρ n key) = 0 then (0) else (1))
set_option maxRecDepth 100000 in
set_option maxHeartbeats 4000000 in
theorem c_X6_hasRoomFor {G : Geo} {l : Launch} (hG : GOK G) {g : Nat} {h : Hp} {ρ : Nat → Int32} {n : Nat} (key : Int32) (hT_g : gT G g = 3) (hr_g : h g = ρ) (hn_g : ar_n (gT G g) g = n) : CM G l yX6_hasRoomFor cX6_hasRoomFor 2 (some .boolean) 3 66 [.ref (gA G g 0), .int key] h h (some (.int (S_X6_hasRoomFor ρ n key))) := by
  obtain ⟨Z, hZ⟩ : ∃ Z, S_X6_hasRoomFor ρ n key = Z := ⟨_, rfl⟩
  rw [hZ]
  refine q_enter hG mf_X6_hasRoomFor (Nat.le_of_ble_eq_true rfl) ?_
  intro p e s m below meth c X hret
  refine q_lv (lv2 := [(0, .ref (gA G g 0)), (1, .int key)]) rfl ?_
  refine q_aload_n X 0 dX6_hasRoomFor_0 rfl ?_
  refine q_geti (fk := 2) (x := ρ 0) X cf_X6 (ac_3_0 hT_g) (by decide) fl_X6_7 rfl rfl dX6_hasRoomFor_1 (hr_g) rfl ?_
  refine q_aload_n X 0 dX6_hasRoomFor_4 rfl ?_
  refine q_get (fk := 0) (v := .ref (gA G g 1)) X cf_X6 (ac_3_0 hT_g) (by decide) fl_X6_19 rfl rfl dX6_hasRoomFor_5 rfl ?_
  refine q_alen (x := Int32.ofNat n) X (ac_3_1 hT_g) dX6_hasRoomFor_8 (by rw [hn_g]) ?_
  refine q_icmp_lt (tgt := 20) X dX6_hasRoomFor_9 (by decide) (fun c1 => ?_) (fun c1 => ?_)
  · skip
    refine q_iconst (v := 1) X dX6_hasRoomFor_20 (by decide) ?_
    refine q_goto (tgt := 25) X dX6_hasRoomFor_21 (by decide) ?_
    have E : Z = 1 := by exact hZ.symm.trans ((if_pos c1).trans rfl)
    exact q_zret X hret rfl dX6_hasRoomFor_25 (by rw [E]) rfl
  · skip
    refine q_aload_n X 0 dX6_hasRoomFor_12 rfl ?_
    refine q_iload_n X 1 dX6_hasRoomFor_13 rfl ?_
    refine q_callV (h1 := _) (rest := []) (As := [.int key]) X (c_X6_has (l := l) hG (ρ := ρ) (n := n) key hT_g (hr_g) hn_g) mf_X6_has mv_X6_has cf_X6 rfl (ac_3_0 hT_g) lk_X6_43 rfl ⟨by decide, by decide⟩ ⟨Nat.le_refl _, Nat.le_refl _⟩ rfl (Nat.le_of_ble_eq_true rfl) dX6_hasRoomFor_14 (st2 := [.int (S_X6_has ρ n key)]) rfl ?_
    refine q_if_eq (tgt := 24) X dX6_hasRoomFor_17 (by decide) (fun c2 => ?_) (fun c2 => ?_)
    · skip
      refine q_iconst (v := 0) X dX6_hasRoomFor_24 (by decide) ?_
      have E : Z = 0 := by exact hZ.symm.trans ((if_neg c1).trans ((if_pos c2).trans rfl))
      exact q_zret X hret rfl dX6_hasRoomFor_25 (by rw [E]) rfl
    · skip
      refine q_iconst (v := 1) X dX6_hasRoomFor_20 (by decide) ?_
      refine q_goto (tgt := 25) X dX6_hasRoomFor_21 (by decide) ?_
      have E : Z = 1 := by exact hZ.symm.trans ((if_neg c1).trans ((if_neg c2).trans rfl))
      exact q_zret X hret rfl dX6_hasRoomFor_25 (by rw [E]) rfl
theorem Z_X6_hasRoomFor (ρ : Nat → Int32) (n : Nat) (key : Int32) : (S_X6_hasRoomFor ρ n key) = 0 ∨ (S_X6_hasRoomFor ρ n key) = 1 := by
  unfold S_X6_hasRoomFor
  (repeat' split) <;> first | exact Or.inl rfl | exact Or.inr rfl
def L_X6_insert_6 (fu : Nat) (ρ : Nat → Int32) (n : Nat) (i : Int32) (key : Int32) (v : Int32) (k : Int32) (ρ1 : Nat → Int32) : (Nat → Int32) := match fu with
  | 0 => (fun _ => 0)
  | fu + 1 => if k ≤ i then (let r2 : Nat → Int32 := S_put ρ1 1 2 n i key; let r3 : Nat → Int32 := S_put r2 2 2 n i v; let r4 : Nat → Int32 := va_up r3 0 ((r3 0) + 1); r4) else (let r5 : Nat → Int32 := S_put ρ1 1 2 n k (S_at ρ1 1 2 n (k - 1)); let r6 : Nat → Int32 := S_put r5 2 2 n k (S_at r5 2 2 n (k - 1)); L_X6_insert_6 fu ρ n i key v (k + (-1)) r6)
def S_X6_insert (ρ : Nat → Int32) (n : Nat) (i : Int32) (key : Int32) (v : Int32) : (Nat → Int32) := L_X6_insert_6 (((ρ 0).toInt - i.toInt).toNat + 1) ρ n i key v (ρ 0) ρ
set_option maxRecDepth 100000 in
set_option maxHeartbeats 4000000 in
theorem w_X6_insert_6 {G : Geo} {p : Program} {l : Launch} {e : Env} {s : State} {m : MethodId} {args : Array Value} {below : List Frame} {meth : Method} {c : Code} {h : Hp} {g : Nat} {ρ : Nat → Int32} {n : Nat} {i : Int32} {key : Int32} {v : Int32} (X : CX G (AA G) p s m meth c RX6 cX6_insert 5) (hret : meth.sig.returnType = none) (hT_g : gT G g = 3) (hr_g : h g = ρ) (hn_g : ar_n (gT G g) g = n) (Z : (Nat → Int32)) : ∀ (fu : Nat) (k : Int32) (ρ1 : Nat → Int32), (k.toInt - i.toInt).toNat < fu → L_X6_insert_6 fu ρ n i key v k ρ1 = Z → VV G (AA G) p l e { frames := 1, cells := 0, slots := 0, locals := 22 } s m args below meth c 0 0 (MQ below (QC G (va_up h g Z) none) args s 0 0 (AA G)) 5 (va_up h g ρ1) 6 [(0, .ref (gA G g 0)), (1, .int i), (2, .int key), (3, .int v), (4, .int k)] [] := by
  intro fu
  induction fu with
  | zero =>
    intro k ρ1  hm
    exact absurd hm (Nat.not_lt_zero _)
  | succ fu ih =>
    intro k ρ1  hm hZ
    have hG := X.2.2.2.2.2.1
    refine q_iload X 4 dX6_insert_6 rfl ?_
    refine q_iload_n X 1 dX6_insert_8 rfl ?_
    refine q_icmp_le (tgt := 58) X dX6_insert_9 (by decide) (fun c1 => ?_) (fun c1 => ?_)
    · skip
      refine q_aload_n X 0 dX6_insert_58 rfl ?_
      refine q_get (fk := 0) (v := .ref (gA G g 1)) X cf_X6 (ac_3_0 hT_g) (by decide) fl_X6_19 rfl rfl dX6_insert_59 rfl ?_
      refine q_iload_n X 1 dX6_insert_62 rfl ?_
      refine q_iload_n X 2 dX6_insert_63 rfl ?_
      obtain ⟨r2, e_r2⟩ : ∃ z : Nat → Int32, z = S_put ρ1 1 2 n i key := ⟨_, rfl⟩
      refine q_callSN (h1 := _) (rest := []) (As := [.ref (gA G g 1), .int i, .int key]) X (c_X9_put (l := l) hG (n := n) (row := ρ1) i key (ac_3_1 hT_g) (va_up_self _ _ _) hn_g) mf_X9_put ms_X9_put ln_X6_47 rfl ⟨by decide, by decide⟩ ⟨Nat.le_refl _, Nat.le_refl _⟩ rfl (Nat.le_of_ble_eq_true rfl) dX6_insert_64 (st2 := []) rfl ?_
      refine q_eq (h2 := va_up h g r2) (by rw [e_r2]; exact va_up_up _ _ _ _) rfl ?_
      refine q_aload_n X 0 dX6_insert_67 rfl ?_
      refine q_get (fk := 1) (v := .ref (gA G g 2)) X cf_X6 (ac_3_0 hT_g) (by decide) fl_X6_23 rfl rfl dX6_insert_68 rfl ?_
      refine q_iload_n X 1 dX6_insert_71 rfl ?_
      refine q_iload_n X 3 dX6_insert_72 rfl ?_
      obtain ⟨r3, e_r3⟩ : ∃ z : Nat → Int32, z = S_put r2 2 2 n i v := ⟨_, rfl⟩
      refine q_callSN (h1 := _) (rest := []) (As := [.ref (gA G g 2), .int i, .int v]) X (c_X9_put (l := l) hG (n := n) (row := r2) i v (ac_3_2 hT_g) (va_up_self _ _ _) hn_g) mf_X9_put ms_X9_put ln_X6_47 rfl ⟨by decide, by decide⟩ ⟨Nat.le_refl _, Nat.le_refl _⟩ rfl (Nat.le_of_ble_eq_true rfl) dX6_insert_73 (st2 := []) rfl ?_
      refine q_eq (h2 := va_up h g r3) (by rw [e_r3]; exact va_up_up _ _ _ _) rfl ?_
      refine q_aload_n X 0 dX6_insert_76 rfl ?_
      refine q_dup X dX6_insert_77 rfl ?_
      refine q_geti (fk := 2) (x := r3 0) X cf_X6 (ac_3_0 hT_g) (by decide) fl_X6_7 rfl rfl dX6_insert_78 (va_up_self _ _ _) rfl ?_
      refine q_iconst (v := 1) X dX6_insert_81 (by decide) ?_
      refine q_iadd X dX6_insert_82 ?_
      obtain ⟨r4, e_r4⟩ : ∃ z : Nat → Int32, z = va_up r3 0 ((r3 0) + 1) := ⟨_, rfl⟩
      refine q_put (fk := 2) (h2 := va_up h g r4) X cf_X6 (ac_3_0 hT_g) (by decide) fl_X6_7 rfl rfl (by rw [hT_g]; rfl) rfl rfl rfl dX6_insert_83 (va_up_self _ _ _) (by rw [e_r4, va_up_up]) ?_
      have E : Z = r4 := by subst e_r4; subst e_r3; subst e_r2; exact hZ.symm.trans ((if_pos c1).trans rfl)
      exact q_vret X hret dX6_insert_86 rfl (by rw [E])
    · skip
      refine q_aload_n X 0 dX6_insert_12 rfl ?_
      refine q_get (fk := 0) (v := .ref (gA G g 1)) X cf_X6 (ac_3_0 hT_g) (by decide) fl_X6_19 rfl rfl dX6_insert_13 rfl ?_
      refine q_iload X 4 dX6_insert_16 rfl ?_
      refine q_aload_n X 0 dX6_insert_18 rfl ?_
      refine q_get (fk := 0) (v := .ref (gA G g 1)) X cf_X6 (ac_3_0 hT_g) (by decide) fl_X6_19 rfl rfl dX6_insert_19 rfl ?_
      refine q_iload X 4 dX6_insert_22 rfl ?_
      refine q_iconst (v := 1) X dX6_insert_24 (by decide) ?_
      refine q_isub X dX6_insert_25 ?_
      refine q_callSN (h1 := _) (rest := [.int k, .ref (gA G g 1)]) (As := [.ref (gA G g 1), .int (k - 1)]) X (c_X9_at (l := l) hG (n := n) (row := ρ1) (k - 1) (ac_3_1 hT_g) (va_up_self _ _ _) hn_g) mf_X9_at ms_X9_at ln_X6_35 rfl ⟨by decide, by decide⟩ ⟨Nat.le_refl _, Nat.le_refl _⟩ rfl (Nat.le_of_ble_eq_true rfl) dX6_insert_26 (st2 := [.int (S_at ρ1 1 2 n (k - 1)), .int k, .ref (gA G g 1)]) rfl ?_
      obtain ⟨r5, e_r5⟩ : ∃ z : Nat → Int32, z = S_put ρ1 1 2 n k (S_at ρ1 1 2 n (k - 1)) := ⟨_, rfl⟩
      refine q_callSN (h1 := _) (rest := []) (As := [.ref (gA G g 1), .int k, .int (S_at ρ1 1 2 n (k - 1))]) X (c_X9_put (l := l) hG (n := n) (row := ρ1) k (S_at ρ1 1 2 n (k - 1)) (ac_3_1 hT_g) (va_up_self _ _ _) hn_g) mf_X9_put ms_X9_put ln_X6_47 rfl ⟨by decide, by decide⟩ ⟨Nat.le_refl _, Nat.le_refl _⟩ rfl (Nat.le_of_ble_eq_true rfl) dX6_insert_29 (st2 := []) rfl ?_
      refine q_eq (h2 := va_up h g r5) (by rw [e_r5]; exact va_up_up _ _ _ _) rfl ?_
      refine q_aload_n X 0 dX6_insert_32 rfl ?_
      refine q_get (fk := 1) (v := .ref (gA G g 2)) X cf_X6 (ac_3_0 hT_g) (by decide) fl_X6_23 rfl rfl dX6_insert_33 rfl ?_
      refine q_iload X 4 dX6_insert_36 rfl ?_
      refine q_aload_n X 0 dX6_insert_38 rfl ?_
      refine q_get (fk := 1) (v := .ref (gA G g 2)) X cf_X6 (ac_3_0 hT_g) (by decide) fl_X6_23 rfl rfl dX6_insert_39 rfl ?_
      refine q_iload X 4 dX6_insert_42 rfl ?_
      refine q_iconst (v := 1) X dX6_insert_44 (by decide) ?_
      refine q_isub X dX6_insert_45 ?_
      refine q_callSN (h1 := _) (rest := [.int k, .ref (gA G g 2)]) (As := [.ref (gA G g 2), .int (k - 1)]) X (c_X9_at (l := l) hG (n := n) (row := r5) (k - 1) (ac_3_2 hT_g) (va_up_self _ _ _) hn_g) mf_X9_at ms_X9_at ln_X6_35 rfl ⟨by decide, by decide⟩ ⟨Nat.le_refl _, Nat.le_refl _⟩ rfl (Nat.le_of_ble_eq_true rfl) dX6_insert_46 (st2 := [.int (S_at r5 2 2 n (k - 1)), .int k, .ref (gA G g 2)]) rfl ?_
      obtain ⟨r6, e_r6⟩ : ∃ z : Nat → Int32, z = S_put r5 2 2 n k (S_at r5 2 2 n (k - 1)) := ⟨_, rfl⟩
      refine q_callSN (h1 := _) (rest := []) (As := [.ref (gA G g 2), .int k, .int (S_at r5 2 2 n (k - 1))]) X (c_X9_put (l := l) hG (n := n) (row := r5) k (S_at r5 2 2 n (k - 1)) (ac_3_2 hT_g) (va_up_self _ _ _) hn_g) mf_X9_put ms_X9_put ln_X6_47 rfl ⟨by decide, by decide⟩ ⟨Nat.le_refl _, Nat.le_refl _⟩ rfl (Nat.le_of_ble_eq_true rfl) dX6_insert_49 (st2 := []) rfl ?_
      refine q_eq (h2 := va_up h g r6) (by rw [e_r6]; exact va_up_up _ _ _ _) rfl ?_
      refine q_iinc (v := k + (-1)) (lv' := [(4, .int (k + (-1))), (0, .ref (gA G g 0)), (1, .int i), (2, .int key), (3, .int v)]) X 4 dX6_insert_52 rfl rfl (by decide) rfl ?_
      refine q_goto (tgt := 6) X dX6_insert_55 (by decide) ?_
      refine q_sub (lv2 := [(0, .ref (gA G g 0)), (1, .int i), (2, .int key), (3, .int v), (4, .int (k + (-1)))]) [1, 2, 3, 4, 0] rfl ?_
      have E : L_X6_insert_6 fu ρ n i key v (k + (-1)) r6 = Z := Eq.trans (Eq.symm (by subst e_r6; subst e_r5; exact (if_neg c1).trans rfl)) hZ
      exact ih (k + (-1)) r6  (by subst e_r6; subst e_r5; exact ms_dn c1 hm) E
set_option maxRecDepth 100000 in
set_option maxHeartbeats 4000000 in
theorem c_X6_insert {G : Geo} {l : Launch} (hG : GOK G) {g : Nat} {h : Hp} {ρ : Nat → Int32} {n : Nat} (i : Int32) (key : Int32) (v : Int32) (hT_g : gT G g = 3) (hr_g : h g = ρ) (hn_g : ar_n (gT G g) g = n) : CM G l yX6_insert cX6_insert 5 none 1 22 [.ref (gA G g 0), .int i, .int key, .int v] h (va_up h g (S_X6_insert ρ n i key v)) none := by
  obtain ⟨Z, hZ⟩ : ∃ Z, S_X6_insert ρ n i key v = Z := ⟨_, rfl⟩
  rw [hZ]
  refine q_enter hG mf_X6_insert (Nat.le_of_ble_eq_true rfl) ?_
  intro p e s m below meth c X hret
  refine q_lv (lv2 := [(0, .ref (gA G g 0)), (1, .int i), (2, .int key), (3, .int v)]) rfl ?_
  refine q_aload_n X 0 dX6_insert_0 rfl ?_
  refine q_geti (fk := 2) (x := ρ 0) X cf_X6 (ac_3_0 hT_g) (by decide) fl_X6_7 rfl rfl dX6_insert_1 (hr_g) rfl ?_
  refine q_istore (lv' := [(4, .int (ρ 0)), (0, .ref (gA G g 0)), (1, .int i), (2, .int key), (3, .int v)]) X dX6_insert_4 (by decide) rfl ?_
  refine q_sub (lv2 := [(0, .ref (gA G g 0)), (1, .int i), (2, .int key), (3, .int v), (4, .int (ρ 0))]) [1, 2, 3, 4, 0] rfl ?_
  refine q_eq (h2 := va_up h g ρ) (va_up_id2 (hr_g)).symm rfl ?_
  have E : L_X6_insert_6 (((ρ 0).toInt - i.toInt).toNat + 1) ρ n i key v (ρ 0) ρ = Z := Eq.trans (Eq.symm (by exact rfl)) hZ
  exact w_X6_insert_6 X hret hT_g hr_g hn_g Z (((ρ 0).toInt - i.toInt).toNat + 1) (ρ 0) ρ  (by exact Nat.lt_succ_self _) E
def S_X6_set (ρ : Nat → Int32) (n : Nat) (key : Int32) (v : Int32) : (Nat → Int32) := let m2 : Nat → Int32 := if (S_X6_indexBelow ρ n key) < 0 then (if (Int32.ofNat n) ≤ (ρ 0) then (ρ) else (let r4 : Nat → Int32 := S_X6_insert ρ n ((S_X6_indexBelow ρ n key) + 1) key v; r4)) else (if (S_at ρ 1 2 n (S_X6_indexBelow ρ n key)) = key then (let r8 : Nat → Int32 := S_put ρ 2 2 n (S_X6_indexBelow ρ n key) v; r8) else (if (Int32.ofNat n) ≤ (ρ 0) then (ρ) else (let r7 : Nat → Int32 := S_X6_insert ρ n ((S_X6_indexBelow ρ n key) + 1) key v; r7))); m2
set_option maxRecDepth 100000 in
set_option maxHeartbeats 4000000 in
theorem c_X6_set {G : Geo} {l : Launch} (hG : GOK G) {g : Nat} {h : Hp} {ρ : Nat → Int32} {n : Nat} (key : Int32) (v : Int32) (hT_g : gT G g = 3) (hr_g : h g = ρ) (hn_g : ar_n (gT G g) g = n) : CM G l yX6_set cX6_set 4 none 2 46 [.ref (gA G g 0), .int key, .int v] h (va_up h g (S_X6_set ρ n key v)) none := by
  obtain ⟨Z, hZ⟩ : ∃ Z, S_X6_set ρ n key v = Z := ⟨_, rfl⟩
  rw [hZ]
  refine q_enter hG mf_X6_set (Nat.le_of_ble_eq_true rfl) ?_
  intro p e s m below meth c X hret
  refine q_lv (lv2 := [(0, .ref (gA G g 0)), (1, .int key), (2, .int v)]) rfl ?_
  refine q_aload_n X 0 dX6_set_0 rfl ?_
  refine q_iload_n X 1 dX6_set_1 rfl ?_
  refine q_callV (h1 := _) (rest := []) (As := [.int key]) X (c_X6_indexBelow (l := l) hG (ρ := ρ) (n := n) key hT_g (hr_g) hn_g) mf_X6_indexBelow mv_X6_indexBelow cf_X6 rfl (ac_3_0 hT_g) lk_X6_39 rfl ⟨by decide, by decide⟩ ⟨Nat.le_refl _, Nat.le_refl _⟩ rfl (Nat.le_of_ble_eq_true rfl) dX6_set_2 (st2 := [.int (S_X6_indexBelow ρ n key)]) rfl ?_
  refine q_istore_n (lv' := [(3, .int (S_X6_indexBelow ρ n key)), (0, .ref (gA G g 0)), (1, .int key), (2, .int v)]) X dX6_set_5 (by decide) rfl ?_
  refine q_iload_n X 0 dX6_set_6 rfl ?_
  suffices hJ9 : ∀ (m2 : Nat → Int32), m2 = (if (S_X6_indexBelow ρ n key) < 0 then (if (Int32.ofNat n) ≤ (ρ 0) then (ρ) else (let r4 : Nat → Int32 := S_X6_insert ρ n ((S_X6_indexBelow ρ n key) + 1) key v; r4)) else (if (S_at ρ 1 2 n (S_X6_indexBelow ρ n key)) = key then (let r8 : Nat → Int32 := S_put ρ 2 2 n (S_X6_indexBelow ρ n key) v; r8) else (if (Int32.ofNat n) ≤ (ρ 0) then (ρ) else (let r7 : Nat → Int32 := S_X6_insert ρ n ((S_X6_indexBelow ρ n key) + 1) key v; r7)))) → VV G (AA G) p l e { frames := 2, cells := 0, slots := 0, locals := 46 } s m ([.ref (gA G g 0), .int key, .int v] : List Value).toArray below meth c 0 0 (MQ below (QC G (va_up h g Z) none) ([.ref (gA G g 0), .int key, .int v] : List Value).toArray s 0 0 (AA G)) 4 (va_up h g m2) 55 [(3, .int (S_X6_indexBelow ρ n key)), (0, .ref (gA G g 0)), (1, .int key), (2, .int v)] [] by
    refine q_if_lt (tgt := 34) X dX6_set_7 (by decide) (fun c1 => ?_) (fun c1 => ?_)
    · skip
      refine q_aload_n X 1 dX6_set_34 rfl ?_
      refine q_geti (fk := 2) (x := ρ 0) X cf_X6 (ac_3_0 hT_g) (by decide) fl_X6_7 rfl rfl dX6_set_35 (hr_g) rfl ?_
      refine q_aload_n X 1 dX6_set_38 rfl ?_
      refine q_get (fk := 0) (v := .ref (gA G g 1)) X cf_X6 (ac_3_0 hT_g) (by decide) fl_X6_19 rfl rfl dX6_set_39 rfl ?_
      refine q_alen (x := Int32.ofNat n) X (ac_3_1 hT_g) dX6_set_42 (by rw [hn_g]) ?_
      refine q_icmp_ge (tgt := 55) X dX6_set_43 (by decide) (fun c3 => ?_) (fun c3 => ?_)
      · skip
        refine q_sub (lv2 := [(3, .int (S_X6_indexBelow ρ n key)), (0, .ref (gA G g 0)), (1, .int key), (2, .int v)]) [0, 1, 2, 3] rfl ?_
        refine q_eq (h2 := va_up h g ρ) (va_up_id2 (hr_g)).symm rfl ?_
        exact hJ9 ρ (by exact ((if_pos c1).trans ((if_pos c3).trans rfl)).symm)
      · skip
        refine q_aload_n X 1 dX6_set_46 rfl ?_
        refine q_iload_n X 0 dX6_set_47 rfl ?_
        refine q_iconst (v := 1) X dX6_set_48 (by decide) ?_
        refine q_iadd X dX6_set_49 ?_
        refine q_iload_n X 2 dX6_set_50 rfl ?_
        refine q_iload_n X 3 dX6_set_51 rfl ?_
        obtain ⟨r4, e_r4⟩ : ∃ z : Nat → Int32, z = S_X6_insert ρ n ((S_X6_indexBelow ρ n key) + 1) key v := ⟨_, rfl⟩
        refine q_callV (h1 := _) (rest := []) (As := [.int ((S_X6_indexBelow ρ n key) + 1), .int key, .int v]) X (c_X6_insert (l := l) hG (ρ := ρ) (n := n) ((S_X6_indexBelow ρ n key) + 1) key v hT_g (hr_g) hn_g) mf_X6_insert mv_X6_insert cf_X6 rfl (ac_3_0 hT_g) lk_X6_51 rfl ⟨by decide, by decide⟩ ⟨Nat.le_refl _, Nat.le_refl _⟩ rfl (Nat.le_of_ble_eq_true rfl) dX6_set_52 (st2 := []) rfl ?_
        refine q_eq (h2 := va_up h g r4) (by rw [e_r4]) rfl ?_
        refine q_sub (lv2 := [(3, .int (S_X6_indexBelow ρ n key)), (0, .ref (gA G g 0)), (1, .int key), (2, .int v)]) [0, 1, 2, 3] rfl ?_
        exact hJ9 r4 (by subst e_r4; exact ((if_pos c1).trans ((if_neg c3).trans rfl)).symm)
    · skip
      refine q_aload_n X 1 dX6_set_10 rfl ?_
      refine q_get (fk := 0) (v := .ref (gA G g 1)) X cf_X6 (ac_3_0 hT_g) (by decide) fl_X6_19 rfl rfl dX6_set_11 rfl ?_
      refine q_iload_n X 0 dX6_set_14 rfl ?_
      refine q_callSN (h1 := _) (rest := []) (As := [.ref (gA G g 1), .int (S_X6_indexBelow ρ n key)]) X (c_X9_at (l := l) hG (n := n) (row := ρ) (S_X6_indexBelow ρ n key) (ac_3_1 hT_g) (hr_g) hn_g) mf_X9_at ms_X9_at ln_X6_35 rfl ⟨by decide, by decide⟩ ⟨Nat.le_refl _, Nat.le_refl _⟩ rfl (Nat.le_of_ble_eq_true rfl) dX6_set_15 (st2 := [.int (S_at ρ 1 2 n (S_X6_indexBelow ρ n key))]) rfl ?_
      refine q_iload_n X 2 dX6_set_18 rfl ?_
      refine q_icmp_ne (tgt := 34) X dX6_set_19 (by decide) (fun c5 => ?_) (fun c5 => ?_)
      · skip
        refine q_aload_n X 1 dX6_set_34 rfl ?_
        refine q_geti (fk := 2) (x := ρ 0) X cf_X6 (ac_3_0 hT_g) (by decide) fl_X6_7 rfl rfl dX6_set_35 (hr_g) rfl ?_
        refine q_aload_n X 1 dX6_set_38 rfl ?_
        refine q_get (fk := 0) (v := .ref (gA G g 1)) X cf_X6 (ac_3_0 hT_g) (by decide) fl_X6_19 rfl rfl dX6_set_39 rfl ?_
        refine q_alen (x := Int32.ofNat n) X (ac_3_1 hT_g) dX6_set_42 (by rw [hn_g]) ?_
        refine q_icmp_ge (tgt := 55) X dX6_set_43 (by decide) (fun c6 => ?_) (fun c6 => ?_)
        · skip
          refine q_sub (lv2 := [(3, .int (S_X6_indexBelow ρ n key)), (0, .ref (gA G g 0)), (1, .int key), (2, .int v)]) [0, 1, 2, 3] rfl ?_
          refine q_eq (h2 := va_up h g ρ) (va_up_id2 (hr_g)).symm rfl ?_
          exact hJ9 ρ (by exact ((if_neg c1).trans ((if_neg c5).trans ((if_pos c6).trans rfl))).symm)
        · skip
          refine q_aload_n X 1 dX6_set_46 rfl ?_
          refine q_iload_n X 0 dX6_set_47 rfl ?_
          refine q_iconst (v := 1) X dX6_set_48 (by decide) ?_
          refine q_iadd X dX6_set_49 ?_
          refine q_iload_n X 2 dX6_set_50 rfl ?_
          refine q_iload_n X 3 dX6_set_51 rfl ?_
          obtain ⟨r7, e_r7⟩ : ∃ z : Nat → Int32, z = S_X6_insert ρ n ((S_X6_indexBelow ρ n key) + 1) key v := ⟨_, rfl⟩
          refine q_callV (h1 := _) (rest := []) (As := [.int ((S_X6_indexBelow ρ n key) + 1), .int key, .int v]) X (c_X6_insert (l := l) hG (ρ := ρ) (n := n) ((S_X6_indexBelow ρ n key) + 1) key v hT_g (hr_g) hn_g) mf_X6_insert mv_X6_insert cf_X6 rfl (ac_3_0 hT_g) lk_X6_51 rfl ⟨by decide, by decide⟩ ⟨Nat.le_refl _, Nat.le_refl _⟩ rfl (Nat.le_of_ble_eq_true rfl) dX6_set_52 (st2 := []) rfl ?_
          refine q_eq (h2 := va_up h g r7) (by rw [e_r7]) rfl ?_
          refine q_sub (lv2 := [(3, .int (S_X6_indexBelow ρ n key)), (0, .ref (gA G g 0)), (1, .int key), (2, .int v)]) [0, 1, 2, 3] rfl ?_
          exact hJ9 r7 (by subst e_r7; exact ((if_neg c1).trans ((if_neg c5).trans ((if_neg c6).trans rfl))).symm)
      · skip
        refine q_aload_n X 1 dX6_set_22 rfl ?_
        refine q_get (fk := 1) (v := .ref (gA G g 2)) X cf_X6 (ac_3_0 hT_g) (by decide) fl_X6_23 rfl rfl dX6_set_23 rfl ?_
        refine q_iload_n X 0 dX6_set_26 rfl ?_
        refine q_iload_n X 3 dX6_set_27 rfl ?_
        obtain ⟨r8, e_r8⟩ : ∃ z : Nat → Int32, z = S_put ρ 2 2 n (S_X6_indexBelow ρ n key) v := ⟨_, rfl⟩
        refine q_callSN (h1 := _) (rest := []) (As := [.ref (gA G g 2), .int (S_X6_indexBelow ρ n key), .int v]) X (c_X9_put (l := l) hG (n := n) (row := ρ) (S_X6_indexBelow ρ n key) v (ac_3_2 hT_g) (hr_g) hn_g) mf_X9_put ms_X9_put ln_X6_47 rfl ⟨by decide, by decide⟩ ⟨Nat.le_refl _, Nat.le_refl _⟩ rfl (Nat.le_of_ble_eq_true rfl) dX6_set_28 (st2 := []) rfl ?_
        refine q_eq (h2 := va_up h g r8) (by rw [e_r8]) rfl ?_
        refine q_goto (tgt := 55) X dX6_set_31 (by decide) ?_
        refine q_sub (lv2 := [(3, .int (S_X6_indexBelow ρ n key)), (0, .ref (gA G g 0)), (1, .int key), (2, .int v)]) [0, 1, 2, 3] rfl ?_
        exact hJ9 r8 (by subst e_r8; exact ((if_neg c1).trans ((if_pos c5).trans rfl)).symm)
  intro m2 e_m2
  have E : Z = m2 := by subst e_m2; exact hZ.symm.trans (rfl)
  exact q_vret X hret dX6_set_55 rfl (by rw [E])
def L_X6_remove_15 (fu : Nat) (ρ : Nat → Int32) (n : Nat) (key : Int32) (k : Int32) (ρ1 : Nat → Int32) : (Nat → Int32) := match fu with
  | 0 => (fun _ => 0)
  | fu + 1 => if ((ρ1 0) - 1) ≤ k then (let r3 : Nat → Int32 := va_up ρ1 0 ((ρ1 0) - 1); r3) else (let r4 : Nat → Int32 := S_put ρ1 1 2 n k (S_at ρ1 1 2 n (k + 1)); let r5 : Nat → Int32 := S_put r4 2 2 n k (S_at r4 2 2 n (k + 1)); L_X6_remove_15 fu ρ n key (k + 1) r5)
def S_X6_remove (ρ : Nat → Int32) (n : Nat) (key : Int32) : (Nat → Int32) := if (S_X6_has ρ n key) = 0 then (ρ) else (L_X6_remove_15 ((((ρ 0) - 1).toInt - (S_X6_indexBelow ρ n key).toInt).toNat + 1) ρ n key (S_X6_indexBelow ρ n key) ρ)
set_option maxRecDepth 100000 in
set_option maxHeartbeats 4000000 in
theorem w_X6_remove_15 {G : Geo} {p : Program} {l : Launch} {e : Env} {s : State} {m : MethodId} {args : Array Value} {below : List Frame} {meth : Method} {c : Code} {h : Hp} {g : Nat} {ρ : Nat → Int32} {n : Nat} {key : Int32} (X : CX G (AA G) p s m meth c RX6 cX6_remove 3) (hret : meth.sig.returnType = none) (hT_g : gT G g = 3) (hr_g : h g = ρ) (hn_g : ar_n (gT G g) g = n) (Z : (Nat → Int32)) : ∀ (fu : Nat) (k : Int32) (ρ1 : Nat → Int32), (ρ1 0 = ρ 0) → (((ρ 0) - 1).toInt - k.toInt).toNat < fu → L_X6_remove_15 fu ρ n key k ρ1 = Z → VV G (AA G) p l e { frames := 3, cells := 0, slots := 0, locals := 66 } s m args below meth c 0 0 (MQ below (QC G (va_up h g Z) none) args s 0 0 (AA G)) 3 (va_up h g ρ1) 15 [(0, .ref (gA G g 0)), (1, .int key), (2, .int k)] [] := by
  intro fu
  induction fu with
  | zero =>
    intro k ρ1 hs hm
    exact absurd hm (Nat.not_lt_zero _)
  | succ fu ih =>
    intro k ρ1 hs hm hZ
    have hG := X.2.2.2.2.2.1
    refine q_iload_n X 2 dX6_remove_15 rfl ?_
    refine q_aload_n X 0 dX6_remove_16 rfl ?_
    refine q_geti (fk := 2) (x := ρ1 0) X cf_X6 (ac_3_0 hT_g) (by decide) fl_X6_7 rfl rfl dX6_remove_17 (va_up_self _ _ _) rfl ?_
    refine q_iconst (v := 1) X dX6_remove_20 (by decide) ?_
    refine q_isub X dX6_remove_21 ?_
    refine q_icmp_ge (tgt := 67) X dX6_remove_22 (by decide) (fun c2 => ?_) (fun c2 => ?_)
    · skip
      refine q_aload_n X 0 dX6_remove_67 rfl ?_
      refine q_dup X dX6_remove_68 rfl ?_
      refine q_geti (fk := 2) (x := ρ1 0) X cf_X6 (ac_3_0 hT_g) (by decide) fl_X6_7 rfl rfl dX6_remove_69 (va_up_self _ _ _) rfl ?_
      refine q_iconst (v := 1) X dX6_remove_72 (by decide) ?_
      refine q_isub X dX6_remove_73 ?_
      obtain ⟨r3, e_r3⟩ : ∃ z : Nat → Int32, z = va_up ρ1 0 ((ρ1 0) - 1) := ⟨_, rfl⟩
      refine q_put (fk := 2) (h2 := va_up h g r3) X cf_X6 (ac_3_0 hT_g) (by decide) fl_X6_7 rfl rfl (by rw [hT_g]; rfl) rfl rfl rfl dX6_remove_74 (va_up_self _ _ _) (by rw [e_r3, va_up_up]) ?_
      have E : Z = r3 := by subst e_r3; exact hZ.symm.trans ((if_pos c2).trans rfl)
      exact q_vret X hret dX6_remove_77 rfl (by rw [E])
    · skip
      refine q_aload_n X 0 dX6_remove_25 rfl ?_
      refine q_get (fk := 0) (v := .ref (gA G g 1)) X cf_X6 (ac_3_0 hT_g) (by decide) fl_X6_19 rfl rfl dX6_remove_26 rfl ?_
      refine q_iload_n X 2 dX6_remove_29 rfl ?_
      refine q_aload_n X 0 dX6_remove_30 rfl ?_
      refine q_get (fk := 0) (v := .ref (gA G g 1)) X cf_X6 (ac_3_0 hT_g) (by decide) fl_X6_19 rfl rfl dX6_remove_31 rfl ?_
      refine q_iload_n X 2 dX6_remove_34 rfl ?_
      refine q_iconst (v := 1) X dX6_remove_35 (by decide) ?_
      refine q_iadd X dX6_remove_36 ?_
      refine q_callSN (h1 := _) (rest := [.int k, .ref (gA G g 1)]) (As := [.ref (gA G g 1), .int (k + 1)]) X (c_X9_at (l := l) hG (n := n) (row := ρ1) (k + 1) (ac_3_1 hT_g) (va_up_self _ _ _) hn_g) mf_X9_at ms_X9_at ln_X6_35 rfl ⟨by decide, by decide⟩ ⟨Nat.le_refl _, Nat.le_refl _⟩ rfl (Nat.le_of_ble_eq_true rfl) dX6_remove_37 (st2 := [.int (S_at ρ1 1 2 n (k + 1)), .int k, .ref (gA G g 1)]) rfl ?_
      obtain ⟨r4, e_r4⟩ : ∃ z : Nat → Int32, z = S_put ρ1 1 2 n k (S_at ρ1 1 2 n (k + 1)) := ⟨_, rfl⟩
      refine q_callSN (h1 := _) (rest := []) (As := [.ref (gA G g 1), .int k, .int (S_at ρ1 1 2 n (k + 1))]) X (c_X9_put (l := l) hG (n := n) (row := ρ1) k (S_at ρ1 1 2 n (k + 1)) (ac_3_1 hT_g) (va_up_self _ _ _) hn_g) mf_X9_put ms_X9_put ln_X6_47 rfl ⟨by decide, by decide⟩ ⟨Nat.le_refl _, Nat.le_refl _⟩ rfl (Nat.le_of_ble_eq_true rfl) dX6_remove_40 (st2 := []) rfl ?_
      refine q_eq (h2 := va_up h g r4) (by rw [e_r4]; exact va_up_up _ _ _ _) rfl ?_
      refine q_aload_n X 0 dX6_remove_43 rfl ?_
      refine q_get (fk := 1) (v := .ref (gA G g 2)) X cf_X6 (ac_3_0 hT_g) (by decide) fl_X6_23 rfl rfl dX6_remove_44 rfl ?_
      refine q_iload_n X 2 dX6_remove_47 rfl ?_
      refine q_aload_n X 0 dX6_remove_48 rfl ?_
      refine q_get (fk := 1) (v := .ref (gA G g 2)) X cf_X6 (ac_3_0 hT_g) (by decide) fl_X6_23 rfl rfl dX6_remove_49 rfl ?_
      refine q_iload_n X 2 dX6_remove_52 rfl ?_
      refine q_iconst (v := 1) X dX6_remove_53 (by decide) ?_
      refine q_iadd X dX6_remove_54 ?_
      refine q_callSN (h1 := _) (rest := [.int k, .ref (gA G g 2)]) (As := [.ref (gA G g 2), .int (k + 1)]) X (c_X9_at (l := l) hG (n := n) (row := r4) (k + 1) (ac_3_2 hT_g) (va_up_self _ _ _) hn_g) mf_X9_at ms_X9_at ln_X6_35 rfl ⟨by decide, by decide⟩ ⟨Nat.le_refl _, Nat.le_refl _⟩ rfl (Nat.le_of_ble_eq_true rfl) dX6_remove_55 (st2 := [.int (S_at r4 2 2 n (k + 1)), .int k, .ref (gA G g 2)]) rfl ?_
      obtain ⟨r5, e_r5⟩ : ∃ z : Nat → Int32, z = S_put r4 2 2 n k (S_at r4 2 2 n (k + 1)) := ⟨_, rfl⟩
      refine q_callSN (h1 := _) (rest := []) (As := [.ref (gA G g 2), .int k, .int (S_at r4 2 2 n (k + 1))]) X (c_X9_put (l := l) hG (n := n) (row := r4) k (S_at r4 2 2 n (k + 1)) (ac_3_2 hT_g) (va_up_self _ _ _) hn_g) mf_X9_put ms_X9_put ln_X6_47 rfl ⟨by decide, by decide⟩ ⟨Nat.le_refl _, Nat.le_refl _⟩ rfl (Nat.le_of_ble_eq_true rfl) dX6_remove_58 (st2 := []) rfl ?_
      refine q_eq (h2 := va_up h g r5) (by rw [e_r5]; exact va_up_up _ _ _ _) rfl ?_
      refine q_iinc (v := k + 1) (lv' := [(2, .int (k + 1)), (0, .ref (gA G g 0)), (1, .int key)]) X 2 dX6_remove_61 rfl rfl (by decide) rfl ?_
      refine q_goto (tgt := 15) X dX6_remove_64 (by decide) ?_
      refine q_sub (lv2 := [(0, .ref (gA G g 0)), (1, .int key), (2, .int (k + 1))]) [1, 2, 0] rfl ?_
      have E : L_X6_remove_15 fu ρ n key (k + 1) r5 = Z := Eq.trans (Eq.symm (by subst e_r5; subst e_r4; exact (if_neg c2).trans rfl)) hZ
      exact ih (k + 1) r5 (by subst e_r5; subst e_r4; rw [S_put_lo (by decide), S_put_lo (by decide)]; exact hs) (by subst e_r5; subst e_r4; exact ms_up (by rw [← hs]; exact c2) hm) E
set_option maxRecDepth 100000 in
set_option maxHeartbeats 4000000 in
theorem c_X6_remove {G : Geo} {l : Launch} (hG : GOK G) {g : Nat} {h : Hp} {ρ : Nat → Int32} {n : Nat} (key : Int32) (hT_g : gT G g = 3) (hr_g : h g = ρ) (hn_g : ar_n (gT G g) g = n) : CM G l yX6_remove cX6_remove 3 none 3 66 [.ref (gA G g 0), .int key] h (va_up h g (S_X6_remove ρ n key)) none := by
  obtain ⟨Z, hZ⟩ : ∃ Z, S_X6_remove ρ n key = Z := ⟨_, rfl⟩
  rw [hZ]
  refine q_enter hG mf_X6_remove (Nat.le_of_ble_eq_true rfl) ?_
  intro p e s m below meth c X hret
  refine q_lv (lv2 := [(0, .ref (gA G g 0)), (1, .int key)]) rfl ?_
  refine q_aload_n X 0 dX6_remove_0 rfl ?_
  refine q_iload_n X 1 dX6_remove_1 rfl ?_
  refine q_callV (h1 := _) (rest := []) (As := [.int key]) X (c_X6_has (l := l) hG (ρ := ρ) (n := n) key hT_g (hr_g) hn_g) mf_X6_has mv_X6_has cf_X6 rfl (ac_3_0 hT_g) lk_X6_43 rfl ⟨by decide, by decide⟩ ⟨Nat.le_refl _, Nat.le_refl _⟩ rfl (Nat.le_of_ble_eq_true rfl) dX6_remove_2 (st2 := [.int (S_X6_has ρ n key)]) rfl ?_
  refine q_if_ne (tgt := 9) X dX6_remove_5 (by decide) (fun c1 => ?_) (fun c1 => ?_)
  · skip
    refine q_aload_n X 0 dX6_remove_9 rfl ?_
    refine q_iload_n X 1 dX6_remove_10 rfl ?_
    refine q_callV (h1 := _) (rest := []) (As := [.int key]) X (c_X6_indexBelow (l := l) hG (ρ := ρ) (n := n) key hT_g (hr_g) hn_g) mf_X6_indexBelow mv_X6_indexBelow cf_X6 rfl (ac_3_0 hT_g) lk_X6_39 rfl ⟨by decide, by decide⟩ ⟨Nat.le_refl _, Nat.le_refl _⟩ rfl (Nat.le_of_ble_eq_true rfl) dX6_remove_11 (st2 := [.int (S_X6_indexBelow ρ n key)]) rfl ?_
    refine q_istore_n (lv' := [(2, .int (S_X6_indexBelow ρ n key)), (0, .ref (gA G g 0)), (1, .int key)]) X dX6_remove_14 (by decide) rfl ?_
    refine q_sub (lv2 := [(0, .ref (gA G g 0)), (1, .int key), (2, .int (S_X6_indexBelow ρ n key))]) [1, 2, 0] rfl ?_
    refine q_eq (h2 := va_up h g ρ) (va_up_id2 (hr_g)).symm rfl ?_
    have E : L_X6_remove_15 ((((ρ 0) - 1).toInt - (S_X6_indexBelow ρ n key).toInt).toNat + 1) ρ n key (S_X6_indexBelow ρ n key) ρ = Z := Eq.trans (Eq.symm (by exact (if_neg c1).trans rfl)) hZ
    exact w_X6_remove_15 X hret hT_g hr_g hn_g Z ((((ρ 0) - 1).toInt - (S_X6_indexBelow ρ n key).toInt).toNat + 1) (S_X6_indexBelow ρ n key) ρ (by rfl) (by exact Nat.lt_succ_self _) E
  · skip
    have E : Z = ρ := by exact hZ.symm.trans ((if_pos c1).trans rfl)
    exact q_vret X hret dX6_remove_8 rfl (by rw [E]; exact va_up_id2 (hr_g))
def S_X6_valueBelow (ρ : Nat → Int32) (n : Nat) (key : Int32) : Int32 := let m2 : Int32 := if 0 ≤ (S_X6_indexBelow ρ n key) then (S_at ρ 2 2 n (S_X6_indexBelow ρ n key)) else (0); m2
set_option maxRecDepth 100000 in
set_option maxHeartbeats 4000000 in
theorem c_X6_valueBelow {G : Geo} {l : Launch} (hG : GOK G) {g : Nat} {h : Hp} {ρ : Nat → Int32} {n : Nat} (key : Int32) (hT_g : gT G g = 3) (hr_g : h g = ρ) (hn_g : ar_n (gT G g) g = n) : CM G l yX6_valueBelow cX6_valueBelow 3 (some .int) 2 44 [.ref (gA G g 0), .int key] h h (some (.int (S_X6_valueBelow ρ n key))) := by
  obtain ⟨Z, hZ⟩ : ∃ Z, S_X6_valueBelow ρ n key = Z := ⟨_, rfl⟩
  rw [hZ]
  refine q_enter hG mf_X6_valueBelow (Nat.le_of_ble_eq_true rfl) ?_
  intro p e s m below meth c X hret
  refine q_lv (lv2 := [(0, .ref (gA G g 0)), (1, .int key)]) rfl ?_
  refine q_aload_n X 0 dX6_valueBelow_0 rfl ?_
  refine q_iload_n X 1 dX6_valueBelow_1 rfl ?_
  refine q_callV (h1 := _) (rest := []) (As := [.int key]) X (c_X6_indexBelow (l := l) hG (ρ := ρ) (n := n) key hT_g (hr_g) hn_g) mf_X6_indexBelow mv_X6_indexBelow cf_X6 rfl (ac_3_0 hT_g) lk_X6_39 rfl ⟨by decide, by decide⟩ ⟨Nat.le_refl _, Nat.le_refl _⟩ rfl (Nat.le_of_ble_eq_true rfl) dX6_valueBelow_2 (st2 := [.int (S_X6_indexBelow ρ n key)]) rfl ?_
  refine q_istore_n (lv' := [(2, .int (S_X6_indexBelow ρ n key)), (0, .ref (gA G g 0)), (1, .int key)]) X dX6_valueBelow_5 (by decide) rfl ?_
  refine q_iload_n X 0 dX6_valueBelow_6 rfl ?_
  suffices hJ3 : ∀ (m2 : Int32), m2 = (if 0 ≤ (S_X6_indexBelow ρ n key) then (S_at ρ 2 2 n (S_X6_indexBelow ρ n key)) else (0)) → VV G (AA G) p l e { frames := 2, cells := 0, slots := 0, locals := 44 } s m ([.ref (gA G g 0), .int key] : List Value).toArray below meth c 0 0 (MQ below (QC G h (some (.int Z))) ([.ref (gA G g 0), .int key] : List Value).toArray s 0 0 (AA G)) 3 h 22 [(2, .int (S_X6_indexBelow ρ n key)), (0, .ref (gA G g 0)), (1, .int key)] [.int m2] by
    refine q_if_ge (tgt := 14) X dX6_valueBelow_7 (by decide) (fun c1 => ?_) (fun c1 => ?_)
    · skip
      refine q_aload_n X 1 dX6_valueBelow_14 rfl ?_
      refine q_get (fk := 1) (v := .ref (gA G g 2)) X cf_X6 (ac_3_0 hT_g) (by decide) fl_X6_23 rfl rfl dX6_valueBelow_15 rfl ?_
      refine q_iload_n X 0 dX6_valueBelow_18 rfl ?_
      refine q_callSN (h1 := _) (rest := []) (As := [.ref (gA G g 2), .int (S_X6_indexBelow ρ n key)]) X (c_X9_at (l := l) hG (n := n) (row := ρ) (S_X6_indexBelow ρ n key) (ac_3_2 hT_g) (hr_g) hn_g) mf_X9_at ms_X9_at ln_X6_35 rfl ⟨by decide, by decide⟩ ⟨Nat.le_refl _, Nat.le_refl _⟩ rfl (Nat.le_of_ble_eq_true rfl) dX6_valueBelow_19 (st2 := [.int (S_at ρ 2 2 n (S_X6_indexBelow ρ n key))]) rfl ?_
      refine q_sub (lv2 := [(2, .int (S_X6_indexBelow ρ n key)), (0, .ref (gA G g 0)), (1, .int key)]) [0, 1, 2] rfl ?_
      exact hJ3 (S_at ρ 2 2 n (S_X6_indexBelow ρ n key)) (by exact ((if_pos c1).trans rfl).symm)
    · skip
      refine q_iconst (v := 0) X dX6_valueBelow_10 (by decide) ?_
      refine q_goto (tgt := 22) X dX6_valueBelow_11 (by decide) ?_
      refine q_sub (lv2 := [(2, .int (S_X6_indexBelow ρ n key)), (0, .ref (gA G g 0)), (1, .int key)]) [0, 1, 2] rfl ?_
      exact hJ3 0 (by exact ((if_neg c1).trans rfl).symm)
  intro m2 e_m2
  have E : Z = m2 := by subst e_m2; exact hZ.symm.trans (rfl)
  exact q_iret X hret dX6_valueBelow_22 (by rw [E]) rfl
def S_X6_valueOnLine (ρ : Nat → Int32) (n : Nat) (key : Int32) : Int32 := if 0 ≤ (S_X6_indexBelow ρ n key) then (if (S_X6_indexBelow ρ n key) < ((ρ 0) - 1) then ((S_at ρ 2 2 n (S_X6_indexBelow ρ n key)) + (Int64.toInt32 (S_X9_quotient (Int32.toInt64 (((S_at ρ 2 2 n ((S_X6_indexBelow ρ n key) + 1)) - (S_at ρ 2 2 n (S_X6_indexBelow ρ n key))) * (key - (S_at ρ 1 2 n (S_X6_indexBelow ρ n key))))) (Int32.toInt64 ((S_at ρ 1 2 n ((S_X6_indexBelow ρ n key) + 1)) - (S_at ρ 1 2 n (S_X6_indexBelow ρ n key))))))) else (S_at ρ 2 2 n (S_X6_indexBelow ρ n key))) else (S_at ρ 2 2 n 0)
set_option maxRecDepth 100000 in
set_option maxHeartbeats 4000000 in
theorem c_X6_valueOnLine {G : Geo} {l : Launch} (hG : GOK G) {g : Nat} {h : Hp} {ρ : Nat → Int32} {n : Nat} (key : Int32) (hT_g : gT G g = 3) (hr_g : h g = ρ) (hn_g : ar_n (gT G g) g = n) : CM G l yX6_valueOnLine cX6_valueOnLine 6 (some .int) 2 48 [.ref (gA G g 0), .int key] h h (some (.int (S_X6_valueOnLine ρ n key))) := by
  obtain ⟨Z, hZ⟩ : ∃ Z, S_X6_valueOnLine ρ n key = Z := ⟨_, rfl⟩
  rw [hZ]
  refine q_enter hG mf_X6_valueOnLine (Nat.le_of_ble_eq_true rfl) ?_
  intro p e s m below meth c X hret
  refine q_lv (lv2 := [(0, .ref (gA G g 0)), (1, .int key)]) rfl ?_
  refine q_aload_n X 0 dX6_valueOnLine_0 rfl ?_
  refine q_iload_n X 1 dX6_valueOnLine_1 rfl ?_
  refine q_callV (h1 := _) (rest := []) (As := [.int key]) X (c_X6_indexBelow (l := l) hG (ρ := ρ) (n := n) key hT_g (hr_g) hn_g) mf_X6_indexBelow mv_X6_indexBelow cf_X6 rfl (ac_3_0 hT_g) lk_X6_39 rfl ⟨by decide, by decide⟩ ⟨Nat.le_refl _, Nat.le_refl _⟩ rfl (Nat.le_of_ble_eq_true rfl) dX6_valueOnLine_2 (st2 := [.int (S_X6_indexBelow ρ n key)]) rfl ?_
  refine q_istore_n (lv' := [(2, .int (S_X6_indexBelow ρ n key)), (0, .ref (gA G g 0)), (1, .int key)]) X dX6_valueOnLine_5 (by decide) rfl ?_
  refine q_iload_n X 0 dX6_valueOnLine_6 rfl ?_
  refine q_if_ge (tgt := 19) X dX6_valueOnLine_7 (by decide) (fun c1 => ?_) (fun c1 => ?_)
  · skip
    refine q_aload_n X 1 dX6_valueOnLine_19 rfl ?_
    refine q_get (fk := 1) (v := .ref (gA G g 2)) X cf_X6 (ac_3_0 hT_g) (by decide) fl_X6_23 rfl rfl dX6_valueOnLine_20 rfl ?_
    refine q_iload_n X 0 dX6_valueOnLine_23 rfl ?_
    refine q_callSN (h1 := _) (rest := []) (As := [.ref (gA G g 2), .int (S_X6_indexBelow ρ n key)]) X (c_X9_at (l := l) hG (n := n) (row := ρ) (S_X6_indexBelow ρ n key) (ac_3_2 hT_g) (hr_g) hn_g) mf_X9_at ms_X9_at ln_X6_35 rfl ⟨by decide, by decide⟩ ⟨Nat.le_refl _, Nat.le_refl _⟩ rfl (Nat.le_of_ble_eq_true rfl) dX6_valueOnLine_24 (st2 := [.int (S_at ρ 2 2 n (S_X6_indexBelow ρ n key))]) rfl ?_
    refine q_istore_n (lv' := [(3, .int (S_at ρ 2 2 n (S_X6_indexBelow ρ n key))), (2, .int (S_X6_indexBelow ρ n key)), (0, .ref (gA G g 0)), (1, .int key)]) X dX6_valueOnLine_27 (by decide) rfl ?_
    refine q_iload_n X 1 dX6_valueOnLine_28 rfl ?_
    refine q_aload_n X 2 dX6_valueOnLine_29 rfl ?_
    refine q_geti (fk := 2) (x := ρ 0) X cf_X6 (ac_3_0 hT_g) (by decide) fl_X6_7 rfl rfl dX6_valueOnLine_30 (hr_g) rfl ?_
    refine q_iconst (v := 1) X dX6_valueOnLine_33 (by decide) ?_
    refine q_isub X dX6_valueOnLine_34 ?_
    refine q_icmp_lt (tgt := 40) X dX6_valueOnLine_35 (by decide) (fun c2 => ?_) (fun c2 => ?_)
    · skip
      refine q_aload_n X 2 dX6_valueOnLine_40 rfl ?_
      refine q_get (fk := 1) (v := .ref (gA G g 2)) X cf_X6 (ac_3_0 hT_g) (by decide) fl_X6_23 rfl rfl dX6_valueOnLine_41 rfl ?_
      refine q_iload_n X 1 dX6_valueOnLine_44 rfl ?_
      refine q_iconst (v := 1) X dX6_valueOnLine_45 (by decide) ?_
      refine q_iadd X dX6_valueOnLine_46 ?_
      refine q_callSN (h1 := _) (rest := []) (As := [.ref (gA G g 2), .int ((S_X6_indexBelow ρ n key) + 1)]) X (c_X9_at (l := l) hG (n := n) (row := ρ) ((S_X6_indexBelow ρ n key) + 1) (ac_3_2 hT_g) (hr_g) hn_g) mf_X9_at ms_X9_at ln_X6_35 rfl ⟨by decide, by decide⟩ ⟨Nat.le_refl _, Nat.le_refl _⟩ rfl (Nat.le_of_ble_eq_true rfl) dX6_valueOnLine_47 (st2 := [.int (S_at ρ 2 2 n ((S_X6_indexBelow ρ n key) + 1))]) rfl ?_
      refine q_iload_n X 0 dX6_valueOnLine_50 rfl ?_
      refine q_isub X dX6_valueOnLine_51 ?_
      refine q_istore (lv' := [(4, .int ((S_at ρ 2 2 n ((S_X6_indexBelow ρ n key) + 1)) - (S_at ρ 2 2 n (S_X6_indexBelow ρ n key)))), (3, .int (S_at ρ 2 2 n (S_X6_indexBelow ρ n key))), (2, .int (S_X6_indexBelow ρ n key)), (0, .ref (gA G g 0)), (1, .int key)]) X dX6_valueOnLine_52 (by decide) rfl ?_
      refine q_aload_n X 3 dX6_valueOnLine_54 rfl ?_
      refine q_get (fk := 0) (v := .ref (gA G g 1)) X cf_X6 (ac_3_0 hT_g) (by decide) fl_X6_19 rfl rfl dX6_valueOnLine_55 rfl ?_
      refine q_iload_n X 2 dX6_valueOnLine_58 rfl ?_
      refine q_iconst (v := 1) X dX6_valueOnLine_59 (by decide) ?_
      refine q_iadd X dX6_valueOnLine_60 ?_
      refine q_callSN (h1 := _) (rest := []) (As := [.ref (gA G g 1), .int ((S_X6_indexBelow ρ n key) + 1)]) X (c_X9_at (l := l) hG (n := n) (row := ρ) ((S_X6_indexBelow ρ n key) + 1) (ac_3_1 hT_g) (hr_g) hn_g) mf_X9_at ms_X9_at ln_X6_35 rfl ⟨by decide, by decide⟩ ⟨Nat.le_refl _, Nat.le_refl _⟩ rfl (Nat.le_of_ble_eq_true rfl) dX6_valueOnLine_61 (st2 := [.int (S_at ρ 1 2 n ((S_X6_indexBelow ρ n key) + 1))]) rfl ?_
      refine q_aload_n X 3 dX6_valueOnLine_64 rfl ?_
      refine q_get (fk := 0) (v := .ref (gA G g 1)) X cf_X6 (ac_3_0 hT_g) (by decide) fl_X6_19 rfl rfl dX6_valueOnLine_65 rfl ?_
      refine q_iload_n X 2 dX6_valueOnLine_68 rfl ?_
      refine q_callSN (h1 := _) (rest := [.int (S_at ρ 1 2 n ((S_X6_indexBelow ρ n key) + 1))]) (As := [.ref (gA G g 1), .int (S_X6_indexBelow ρ n key)]) X (c_X9_at (l := l) hG (n := n) (row := ρ) (S_X6_indexBelow ρ n key) (ac_3_1 hT_g) (hr_g) hn_g) mf_X9_at ms_X9_at ln_X6_35 rfl ⟨by decide, by decide⟩ ⟨Nat.le_refl _, Nat.le_refl _⟩ rfl (Nat.le_of_ble_eq_true rfl) dX6_valueOnLine_69 (st2 := [.int (S_at ρ 1 2 n (S_X6_indexBelow ρ n key)), .int (S_at ρ 1 2 n ((S_X6_indexBelow ρ n key) + 1))]) rfl ?_
      refine q_isub X dX6_valueOnLine_72 ?_
      refine q_istore (lv' := [(5, .int ((S_at ρ 1 2 n ((S_X6_indexBelow ρ n key) + 1)) - (S_at ρ 1 2 n (S_X6_indexBelow ρ n key)))), (4, .int ((S_at ρ 2 2 n ((S_X6_indexBelow ρ n key) + 1)) - (S_at ρ 2 2 n (S_X6_indexBelow ρ n key)))), (3, .int (S_at ρ 2 2 n (S_X6_indexBelow ρ n key))), (2, .int (S_X6_indexBelow ρ n key)), (0, .ref (gA G g 0)), (1, .int key)]) X dX6_valueOnLine_73 (by decide) rfl ?_
      refine q_iload_n X 2 dX6_valueOnLine_75 rfl ?_
      refine q_iload X 1 dX6_valueOnLine_76 rfl ?_
      refine q_iload_n X 5 dX6_valueOnLine_78 rfl ?_
      refine q_aload_n X 4 dX6_valueOnLine_79 rfl ?_
      refine q_get (fk := 0) (v := .ref (gA G g 1)) X cf_X6 (ac_3_0 hT_g) (by decide) fl_X6_19 rfl rfl dX6_valueOnLine_80 rfl ?_
      refine q_iload_n X 3 dX6_valueOnLine_83 rfl ?_
      refine q_callSN (h1 := _) (rest := [.int key, .int ((S_at ρ 2 2 n ((S_X6_indexBelow ρ n key) + 1)) - (S_at ρ 2 2 n (S_X6_indexBelow ρ n key))), .int (S_at ρ 2 2 n (S_X6_indexBelow ρ n key))]) (As := [.ref (gA G g 1), .int (S_X6_indexBelow ρ n key)]) X (c_X9_at (l := l) hG (n := n) (row := ρ) (S_X6_indexBelow ρ n key) (ac_3_1 hT_g) (hr_g) hn_g) mf_X9_at ms_X9_at ln_X6_35 rfl ⟨by decide, by decide⟩ ⟨Nat.le_refl _, Nat.le_refl _⟩ rfl (Nat.le_of_ble_eq_true rfl) dX6_valueOnLine_84 (st2 := [.int (S_at ρ 1 2 n (S_X6_indexBelow ρ n key)), .int key, .int ((S_at ρ 2 2 n ((S_X6_indexBelow ρ n key) + 1)) - (S_at ρ 2 2 n (S_X6_indexBelow ρ n key))), .int (S_at ρ 2 2 n (S_X6_indexBelow ρ n key))]) rfl ?_
      refine q_isub X dX6_valueOnLine_87 ?_
      refine q_imul X dX6_valueOnLine_88 ?_
      refine q_i2l X dX6_valueOnLine_89 ?_
      refine q_iload X 0 dX6_valueOnLine_90 rfl ?_
      refine q_i2l X dX6_valueOnLine_92 ?_
      refine q_callSN (h1 := _) (rest := [.int (S_at ρ 2 2 n (S_X6_indexBelow ρ n key))]) (As := [.long (Int32.toInt64 (((S_at ρ 2 2 n ((S_X6_indexBelow ρ n key) + 1)) - (S_at ρ 2 2 n (S_X6_indexBelow ρ n key))) * (key - (S_at ρ 1 2 n (S_X6_indexBelow ρ n key))))), .long (Int32.toInt64 ((S_at ρ 1 2 n ((S_X6_indexBelow ρ n key) + 1)) - (S_at ρ 1 2 n (S_X6_indexBelow ρ n key))))]) X (c_X9_quotient (l := l) hG   (Int32.toInt64 (((S_at ρ 2 2 n ((S_X6_indexBelow ρ n key) + 1)) - (S_at ρ 2 2 n (S_X6_indexBelow ρ n key))) * (key - (S_at ρ 1 2 n (S_X6_indexBelow ρ n key))))) (Int32.toInt64 ((S_at ρ 1 2 n ((S_X6_indexBelow ρ n key) + 1)) - (S_at ρ 1 2 n (S_X6_indexBelow ρ n key)))) ) mf_X9_quotient ms_X9_quotient ln_X6_55 rfl ⟨by decide, by decide⟩ ⟨Nat.le_refl _, Nat.le_refl _⟩ rfl (Nat.le_of_ble_eq_true rfl) dX6_valueOnLine_93 (st2 := [.long (S_X9_quotient (Int32.toInt64 (((S_at ρ 2 2 n ((S_X6_indexBelow ρ n key) + 1)) - (S_at ρ 2 2 n (S_X6_indexBelow ρ n key))) * (key - (S_at ρ 1 2 n (S_X6_indexBelow ρ n key))))) (Int32.toInt64 ((S_at ρ 1 2 n ((S_X6_indexBelow ρ n key) + 1)) - (S_at ρ 1 2 n (S_X6_indexBelow ρ n key))))), .int (S_at ρ 2 2 n (S_X6_indexBelow ρ n key))]) rfl ?_
      refine q_l2i X dX6_valueOnLine_96 ?_
      refine q_iadd X dX6_valueOnLine_97 ?_
      have E : Z = (S_at ρ 2 2 n (S_X6_indexBelow ρ n key)) + (Int64.toInt32 (S_X9_quotient (Int32.toInt64 (((S_at ρ 2 2 n ((S_X6_indexBelow ρ n key) + 1)) - (S_at ρ 2 2 n (S_X6_indexBelow ρ n key))) * (key - (S_at ρ 1 2 n (S_X6_indexBelow ρ n key))))) (Int32.toInt64 ((S_at ρ 1 2 n ((S_X6_indexBelow ρ n key) + 1)) - (S_at ρ 1 2 n (S_X6_indexBelow ρ n key)))))) := by exact hZ.symm.trans ((if_pos c1).trans ((if_pos c2).trans rfl))
      exact q_iret X hret dX6_valueOnLine_98 (by rw [E]) rfl
    · skip
      refine q_iload_n X 0 dX6_valueOnLine_38 rfl ?_
      have E : Z = S_at ρ 2 2 n (S_X6_indexBelow ρ n key) := by exact hZ.symm.trans ((if_pos c1).trans ((if_neg c2).trans rfl))
      exact q_iret X hret dX6_valueOnLine_39 (by rw [E]) rfl
  · skip
    refine q_aload_n X 1 dX6_valueOnLine_10 rfl ?_
    refine q_get (fk := 1) (v := .ref (gA G g 2)) X cf_X6 (ac_3_0 hT_g) (by decide) fl_X6_23 rfl rfl dX6_valueOnLine_11 rfl ?_
    refine q_iconst (v := 0) X dX6_valueOnLine_14 (by decide) ?_
    refine q_callSN (h1 := _) (rest := []) (As := [.ref (gA G g 2), .int 0]) X (c_X9_at (l := l) hG (n := n) (row := ρ) 0 (ac_3_2 hT_g) (hr_g) hn_g) mf_X9_at ms_X9_at ln_X6_35 rfl ⟨by decide, by decide⟩ ⟨Nat.le_refl _, Nat.le_refl _⟩ rfl (Nat.le_of_ble_eq_true rfl) dX6_valueOnLine_15 (st2 := [.int (S_at ρ 2 2 n 0)]) rfl ?_
    have E : Z = S_at ρ 2 2 n 0 := by exact hZ.symm.trans ((if_neg c1).trans rfl)
    exact q_iret X hret dX6_valueOnLine_18 (by rw [E]) rfl
def S_X6_copyFrom (ρ : Nat → Int32) (ρ2 : Nat → Int32) (n : Nat) : (Nat → Int32) := let r1 : Nat → Int32 := S_copy ρ2 ρ 1 2 n; let r2 : Nat → Int32 := S_copy ρ2 r1 2 2 n; let r3 : Nat → Int32 := va_up r2 0 (S_J9_min_7cf53 (ρ2 0) (Int32.ofNat n)); r3
set_option maxRecDepth 100000 in
set_option maxHeartbeats 4000000 in
theorem c_X6_copyFrom {G : Geo} {l : Launch} (hG : GOK G) {g g2 : Nat} {h : Hp} {ρ : Nat → Int32} {ρ2 : Nat → Int32} {n : Nat} (hT_g : gT G g = 3) (hT_g2 : gT G g2 = 3) (hr_g : h g = ρ) (hr_g2 : h g2 = ρ2) (hn_g : ar_n (gT G g) g = n) (hn_g2 : ar_n (gT G g2) g2 = n) (hne : g2 ≠ g) : CM G l yX6_copyFrom cX6_copyFrom 2 none 2 81 [.ref (gA G g 0), .ref (gA G g2 0)] h (va_up h g (S_X6_copyFrom ρ ρ2 n)) none := by
  obtain ⟨Z, hZ⟩ : ∃ Z, S_X6_copyFrom ρ ρ2 n = Z := ⟨_, rfl⟩
  rw [hZ]
  refine q_enter hG mf_X6_copyFrom (Nat.le_of_ble_eq_true rfl) ?_
  intro p e s m below meth c X hret
  refine q_lv (lv2 := [(0, .ref (gA G g 0)), (1, .ref (gA G g2 0))]) rfl ?_
  refine q_aload_n X 1 dX6_copyFrom_0 rfl ?_
  refine q_get (fk := 0) (v := .ref (gA G g2 1)) X cf_X6 (ac_3_0 hT_g2) (by decide) fl_X6_19 rfl rfl dX6_copyFrom_1 rfl ?_
  refine q_aload_n X 0 dX6_copyFrom_4 rfl ?_
  refine q_get (fk := 0) (v := .ref (gA G g 1)) X cf_X6 (ac_3_0 hT_g) (by decide) fl_X6_19 rfl rfl dX6_copyFrom_5 rfl ?_
  obtain ⟨r1, e_r1⟩ : ∃ z : Nat → Int32, z = S_copy ρ2 ρ 1 2 n := ⟨_, rfl⟩
  refine q_callSN (h1 := _) (rest := []) (As := [.ref (gA G g2 1), .ref (gA G g 1)]) X (c_X9_copyRow (l := l) hG (n := n) (frm := ρ2) (row := ρ) (ac_3_1 hT_g2) (ac_3_1 hT_g) (hr_g2) (hr_g) hn_g2 hn_g) mf_X9_copyRow ms_X9_copyRow ln_X6_26 rfl ⟨by decide, by decide⟩ ⟨Nat.le_refl _, Nat.le_refl _⟩ rfl (Nat.le_of_ble_eq_true rfl) dX6_copyFrom_8 (st2 := []) rfl ?_
  refine q_eq (h2 := va_up h g r1) (by rw [e_r1]) rfl ?_
  refine q_aload_n X 1 dX6_copyFrom_11 rfl ?_
  refine q_get (fk := 1) (v := .ref (gA G g2 2)) X cf_X6 (ac_3_0 hT_g2) (by decide) fl_X6_23 rfl rfl dX6_copyFrom_12 rfl ?_
  refine q_aload_n X 0 dX6_copyFrom_15 rfl ?_
  refine q_get (fk := 1) (v := .ref (gA G g 2)) X cf_X6 (ac_3_0 hT_g) (by decide) fl_X6_23 rfl rfl dX6_copyFrom_16 rfl ?_
  obtain ⟨r2, e_r2⟩ : ∃ z : Nat → Int32, z = S_copy ρ2 r1 2 2 n := ⟨_, rfl⟩
  refine q_callSN (h1 := _) (rest := []) (As := [.ref (gA G g2 2), .ref (gA G g 2)]) X (c_X9_copyRow (l := l) hG (n := n) (frm := ρ2) (row := r1) (ac_3_2 hT_g2) (ac_3_2 hT_g) ((va_up_ne _ _ hne).trans (hr_g2)) (va_up_self _ _ _) hn_g2 hn_g) mf_X9_copyRow ms_X9_copyRow ln_X6_26 rfl ⟨by decide, by decide⟩ ⟨Nat.le_refl _, Nat.le_refl _⟩ rfl (Nat.le_of_ble_eq_true rfl) dX6_copyFrom_19 (st2 := []) rfl ?_
  refine q_eq (h2 := va_up h g r2) (by rw [e_r2]; exact va_up_up _ _ _ _) rfl ?_
  refine q_aload_n X 0 dX6_copyFrom_22 rfl ?_
  refine q_aload_n X 1 dX6_copyFrom_23 rfl ?_
  refine q_geti (fk := 2) (x := ρ2 0) X cf_X6 (ac_3_0 hT_g2) (by decide) fl_X6_7 rfl rfl dX6_copyFrom_24 ((va_up_ne _ _ hne).trans (hr_g2)) rfl ?_
  refine q_aload_n X 0 dX6_copyFrom_27 rfl ?_
  refine q_get (fk := 0) (v := .ref (gA G g 1)) X cf_X6 (ac_3_0 hT_g) (by decide) fl_X6_19 rfl rfl dX6_copyFrom_28 rfl ?_
  refine q_alen (x := Int32.ofNat n) X (ac_3_1 hT_g) dX6_copyFrom_31 (by rw [hn_g]) ?_
  refine q_callS (h1 := _) (rest := [.ref (gA G g 0)]) (As := [.int (ρ2 0), .int (Int32.ofNat n)]) X (c_J9_min_7cf53 (l := l) hG   (ρ2 0) (Int32.ofNat n) ) mf_J9_min_7cf53 ms_J9_min_7cf53 lk_X6_32 rfl ⟨by decide, by decide⟩ ⟨Nat.le_refl _, Nat.le_refl _⟩ rfl (Nat.le_of_ble_eq_true rfl) dX6_copyFrom_32 (st2 := [.int (S_J9_min_7cf53 (ρ2 0) (Int32.ofNat n)), .ref (gA G g 0)]) rfl ?_
  obtain ⟨r3, e_r3⟩ : ∃ z : Nat → Int32, z = va_up r2 0 (S_J9_min_7cf53 (ρ2 0) (Int32.ofNat n)) := ⟨_, rfl⟩
  refine q_put (fk := 2) (h2 := va_up h g r3) X cf_X6 (ac_3_0 hT_g) (by decide) fl_X6_7 rfl rfl (by rw [hT_g]; rfl) rfl rfl rfl dX6_copyFrom_35 (va_up_self _ _ _) (by rw [e_r3, va_up_up]) ?_
  have E : Z = r3 := by subst e_r3; subst e_r2; subst e_r1; exact hZ.symm.trans (rfl)
  exact q_vret X hret dX6_copyFrom_38 rfl (by rw [E])
end
section
def S_X5_copyFrom (ρ : Nat → Int32) (ρ2 : Nat → Int32) : (Nat → Int32) := let r1 : Nat → Int32 := va_up ρ 3 (ρ2 3); let r2 : Nat → Int32 := va_up r1 9 (ρ2 9); let r3 : Nat → Int32 := va_up r2 10 (ρ2 10); let r4 : Nat → Int32 := va_up r3 11 (ρ2 11); let r5 : Nat → Int32 := va_up r4 12 (ρ2 12); let r6 : Nat → Int32 := va_up r5 5 (ρ2 5); let r7 : Nat → Int32 := va_up r6 6 (ρ2 6); let r8 : Nat → Int32 := va_up r7 14 (ρ2 14); let r9 : Nat → Int32 := va_up r8 15 (ρ2 15); let r10 : Nat → Int32 := va_up r9 8 (ρ2 8); r10
set_option maxRecDepth 100000 in
set_option maxHeartbeats 4000000 in
theorem c_X5_copyFrom {G : Geo} {l : Launch} (hG : GOK G) {g g2 : Nat} {h : Hp} {ρ : Nat → Int32} {ρ2 : Nat → Int32} (hT_g : gT G g = 2) (hT_g2 : gT G g2 = 2) (hr_g : h g = ρ) (hr_g2 : h g2 = ρ2) (hne : g2 ≠ g) : CM G l yX5_copyFrom cX5_copyFrom 2 none 0 0 [.ref (gA G g 1), .ref (gA G g2 1)] h (va_up h g (S_X5_copyFrom ρ ρ2)) none := by
  obtain ⟨Z, hZ⟩ : ∃ Z, S_X5_copyFrom ρ ρ2 = Z := ⟨_, rfl⟩
  rw [hZ]
  refine q_enter hG mf_X5_copyFrom (Nat.le_of_ble_eq_true rfl) ?_
  intro p e s m below meth c X hret
  refine q_lv (lv2 := [(0, .ref (gA G g 1)), (1, .ref (gA G g2 1))]) rfl ?_
  refine q_aload_n X 0 dX5_copyFrom_0 rfl ?_
  refine q_aload_n X 1 dX5_copyFrom_1 rfl ?_
  refine q_geti (fk := 0) (x := ρ2 3) X cf_X5 (ac_2_1 hT_g2) (by decide) fl_X5_7 rfl rfl dX5_copyFrom_2 (hr_g2) rfl ?_
  obtain ⟨r1, e_r1⟩ : ∃ z : Nat → Int32, z = va_up ρ 3 (ρ2 3) := ⟨_, rfl⟩
  refine q_put (fk := 0) (h2 := va_up h g r1) X cf_X5 (ac_2_1 hT_g) (by decide) fl_X5_7 rfl rfl (by rw [hT_g]; rfl) rfl rfl rfl dX5_copyFrom_5 (hr_g) (by rw [e_r1]) ?_
  refine q_aload_n X 0 dX5_copyFrom_8 rfl ?_
  refine q_aload_n X 1 dX5_copyFrom_9 rfl ?_
  refine q_geti (fk := 1) (x := ρ2 9) X cf_X5 (ac_2_1 hT_g2) (by decide) fl_X5_13 rfl rfl dX5_copyFrom_10 ((va_up_ne _ _ hne).trans (hr_g2)) rfl ?_
  obtain ⟨r2, e_r2⟩ : ∃ z : Nat → Int32, z = va_up r1 9 (ρ2 9) := ⟨_, rfl⟩
  refine q_put (fk := 1) (h2 := va_up h g r2) X cf_X5 (ac_2_1 hT_g) (by decide) fl_X5_13 rfl rfl (by rw [hT_g]; rfl) rfl rfl rfl dX5_copyFrom_13 (va_up_self _ _ _) (by rw [e_r2, va_up_up]) ?_
  refine q_aload_n X 0 dX5_copyFrom_16 rfl ?_
  refine q_aload_n X 1 dX5_copyFrom_17 rfl ?_
  refine q_geti (fk := 2) (x := ρ2 10) X cf_X5 (ac_2_1 hT_g2) (by decide) fl_X5_16 rfl rfl dX5_copyFrom_18 ((va_up_ne _ _ hne).trans (hr_g2)) rfl ?_
  obtain ⟨r3, e_r3⟩ : ∃ z : Nat → Int32, z = va_up r2 10 (ρ2 10) := ⟨_, rfl⟩
  refine q_put (fk := 2) (h2 := va_up h g r3) X cf_X5 (ac_2_1 hT_g) (by decide) fl_X5_16 rfl rfl (by rw [hT_g]; rfl) rfl rfl rfl dX5_copyFrom_21 (va_up_self _ _ _) (by rw [e_r3, va_up_up]) ?_
  refine q_aload_n X 0 dX5_copyFrom_24 rfl ?_
  refine q_aload_n X 1 dX5_copyFrom_25 rfl ?_
  refine q_geti (fk := 3) (x := ρ2 11) X cf_X5 (ac_2_1 hT_g2) (by decide) fl_X5_19 rfl rfl dX5_copyFrom_26 ((va_up_ne _ _ hne).trans (hr_g2)) rfl ?_
  obtain ⟨r4, e_r4⟩ : ∃ z : Nat → Int32, z = va_up r3 11 (ρ2 11) := ⟨_, rfl⟩
  refine q_put (fk := 3) (h2 := va_up h g r4) X cf_X5 (ac_2_1 hT_g) (by decide) fl_X5_19 rfl rfl (by rw [hT_g]; rfl) rfl rfl rfl dX5_copyFrom_29 (va_up_self _ _ _) (by rw [e_r4, va_up_up]) ?_
  refine q_aload_n X 0 dX5_copyFrom_32 rfl ?_
  refine q_aload_n X 1 dX5_copyFrom_33 rfl ?_
  refine q_geti (fk := 4) (x := ρ2 12) X cf_X5 (ac_2_1 hT_g2) (by decide) fl_X5_22 rfl rfl dX5_copyFrom_34 ((va_up_ne _ _ hne).trans (hr_g2)) rfl ?_
  obtain ⟨r5, e_r5⟩ : ∃ z : Nat → Int32, z = va_up r4 12 (ρ2 12) := ⟨_, rfl⟩
  refine q_put (fk := 4) (h2 := va_up h g r5) X cf_X5 (ac_2_1 hT_g) (by decide) fl_X5_22 rfl rfl (by rw [hT_g]; rfl) rfl rfl rfl dX5_copyFrom_37 (va_up_self _ _ _) (by rw [e_r5, va_up_up]) ?_
  refine q_aload_n X 0 dX5_copyFrom_40 rfl ?_
  refine q_aload_n X 1 dX5_copyFrom_41 rfl ?_
  refine q_geti (fk := 5) (x := ρ2 5) X cf_X5 (ac_2_1 hT_g2) (by decide) fl_X5_25 rfl rfl dX5_copyFrom_42 ((va_up_ne _ _ hne).trans (hr_g2)) rfl ?_
  obtain ⟨r6, e_r6⟩ : ∃ z : Nat → Int32, z = va_up r5 5 (ρ2 5) := ⟨_, rfl⟩
  refine q_put (fk := 5) (h2 := va_up h g r6) X cf_X5 (ac_2_1 hT_g) (by decide) fl_X5_25 rfl rfl (by rw [hT_g]; rfl) rfl rfl rfl dX5_copyFrom_45 (va_up_self _ _ _) (by rw [e_r6, va_up_up]) ?_
  refine q_aload_n X 0 dX5_copyFrom_48 rfl ?_
  refine q_aload_n X 1 dX5_copyFrom_49 rfl ?_
  refine q_geti (fk := 6) (x := ρ2 6) X cf_X5 (ac_2_1 hT_g2) (by decide) fl_X5_28 rfl rfl dX5_copyFrom_50 ((va_up_ne _ _ hne).trans (hr_g2)) rfl ?_
  obtain ⟨r7, e_r7⟩ : ∃ z : Nat → Int32, z = va_up r6 6 (ρ2 6) := ⟨_, rfl⟩
  refine q_put (fk := 6) (h2 := va_up h g r7) X cf_X5 (ac_2_1 hT_g) (by decide) fl_X5_28 rfl rfl (by rw [hT_g]; rfl) rfl rfl rfl dX5_copyFrom_53 (va_up_self _ _ _) (by rw [e_r7, va_up_up]) ?_
  refine q_aload_n X 0 dX5_copyFrom_56 rfl ?_
  refine q_aload_n X 1 dX5_copyFrom_57 rfl ?_
  refine q_geti (fk := 7) (x := ρ2 14) X cf_X5 (ac_2_1 hT_g2) (by decide) fl_X5_31 rfl rfl dX5_copyFrom_58 ((va_up_ne _ _ hne).trans (hr_g2)) rfl ?_
  obtain ⟨r8, e_r8⟩ : ∃ z : Nat → Int32, z = va_up r7 14 (ρ2 14) := ⟨_, rfl⟩
  refine q_put (fk := 7) (h2 := va_up h g r8) X cf_X5 (ac_2_1 hT_g) (by decide) fl_X5_31 rfl rfl (by rw [hT_g]; rfl) rfl rfl rfl dX5_copyFrom_61 (va_up_self _ _ _) (by rw [e_r8, va_up_up]) ?_
  refine q_aload_n X 0 dX5_copyFrom_64 rfl ?_
  refine q_aload_n X 1 dX5_copyFrom_65 rfl ?_
  refine q_geti (fk := 8) (x := ρ2 15) X cf_X5 (ac_2_1 hT_g2) (by decide) fl_X5_34 rfl rfl dX5_copyFrom_66 ((va_up_ne _ _ hne).trans (hr_g2)) rfl ?_
  obtain ⟨r9, e_r9⟩ : ∃ z : Nat → Int32, z = va_up r8 15 (ρ2 15) := ⟨_, rfl⟩
  refine q_put (fk := 8) (h2 := va_up h g r9) X cf_X5 (ac_2_1 hT_g) (by decide) fl_X5_34 rfl rfl (by rw [hT_g]; rfl) rfl rfl rfl dX5_copyFrom_69 (va_up_self _ _ _) (by rw [e_r9, va_up_up]) ?_
  refine q_aload_n X 0 dX5_copyFrom_72 rfl ?_
  refine q_aload_n X 1 dX5_copyFrom_73 rfl ?_
  refine q_geti (fk := 9) (x := ρ2 8) X cf_X5 (ac_2_1 hT_g2) (by decide) fl_X5_37 rfl rfl dX5_copyFrom_74 ((va_up_ne _ _ hne).trans (hr_g2)) rfl ?_
  obtain ⟨r10, e_r10⟩ : ∃ z : Nat → Int32, z = va_up r9 8 (ρ2 8) := ⟨_, rfl⟩
  refine q_put (fk := 9) (h2 := va_up h g r10) X cf_X5 (ac_2_1 hT_g) (by decide) fl_X5_37 rfl rfl (by rw [hT_g]; rfl) rfl rfl rfl dX5_copyFrom_77 (va_up_self _ _ _) (by rw [e_r10, va_up_up]) ?_
  have E : Z = r10 := by subst e_r10; subst e_r9; subst e_r8; subst e_r7; subst e_r6; subst e_r5; subst e_r4; subst e_r3; subst e_r2; subst e_r1; exact hZ.symm.trans (rfl)
  exact q_vret X hret dX5_copyFrom_80 rfl (by rw [E])
def S_X0_copyFrom (ρ : Nat → Int32) (ρ2 : Nat → Int32) : (Nat → Int32) := let r1 : Nat → Int32 := va_up ρ 16 (ρ2 16); let r2 : Nat → Int32 := va_up r1 17 (ρ2 17); let r3 : Nat → Int32 := va_up r2 18 (ρ2 18); let r4 : Nat → Int32 := va_up r3 19 (ρ2 19); let r5 : Nat → Int32 := va_up r4 20 (ρ2 20); let r6 : Nat → Int32 := S_copy ρ2 r5 26 1 6; let r7 : Nat → Int32 := va_up r6 23 (ρ2 23); let r8 : Nat → Int32 := va_up r7 24 (ρ2 24); let r9 : Nat → Int32 := va_up r8 25 (ρ2 25); r9
set_option maxRecDepth 100000 in
set_option maxHeartbeats 4000000 in
theorem c_X0_copyFrom {G : Geo} {l : Launch} (hG : GOK G) {g g2 : Nat} {h : Hp} {ρ : Nat → Int32} {ρ2 : Nat → Int32} (hT_g : gT G g = 2) (hT_g2 : gT G g2 = 2) (hr_g : h g = ρ) (hr_g2 : h g2 = ρ2) (hne : g2 ≠ g) : CM G l yX0_copyFrom cX0_copyFrom 2 none 2 81 [.ref (gA G g 2), .ref (gA G g2 2)] h (va_up h g (S_X0_copyFrom ρ ρ2)) none := by
  obtain ⟨Z, hZ⟩ : ∃ Z, S_X0_copyFrom ρ ρ2 = Z := ⟨_, rfl⟩
  rw [hZ]
  refine q_enter hG mf_X0_copyFrom (Nat.le_of_ble_eq_true rfl) ?_
  intro p e s m below meth c X hret
  refine q_lv (lv2 := [(0, .ref (gA G g 2)), (1, .ref (gA G g2 2))]) rfl ?_
  refine q_aload_n X 0 dX0_copyFrom_0 rfl ?_
  refine q_aload_n X 1 dX0_copyFrom_1 rfl ?_
  refine q_geti (fk := 0) (x := ρ2 16) X cf_X0 (ac_2_2 hT_g2) (by decide) fl_X0_9 rfl rfl dX0_copyFrom_2 (hr_g2) rfl ?_
  obtain ⟨r1, e_r1⟩ : ∃ z : Nat → Int32, z = va_up ρ 16 (ρ2 16) := ⟨_, rfl⟩
  refine q_put (fk := 0) (h2 := va_up h g r1) X cf_X0 (ac_2_2 hT_g) (by decide) fl_X0_9 rfl rfl (by rw [hT_g]; rfl) rfl rfl rfl dX0_copyFrom_5 (hr_g) (by rw [e_r1]) ?_
  refine q_aload_n X 0 dX0_copyFrom_8 rfl ?_
  refine q_aload_n X 1 dX0_copyFrom_9 rfl ?_
  refine q_geti (fk := 1) (x := ρ2 17) X cf_X0 (ac_2_2 hT_g2) (by decide) fl_X0_15 rfl rfl dX0_copyFrom_10 ((va_up_ne _ _ hne).trans (hr_g2)) rfl ?_
  obtain ⟨r2, e_r2⟩ : ∃ z : Nat → Int32, z = va_up r1 17 (ρ2 17) := ⟨_, rfl⟩
  refine q_put (fk := 1) (h2 := va_up h g r2) X cf_X0 (ac_2_2 hT_g) (by decide) fl_X0_15 rfl rfl (by rw [hT_g]; rfl) rfl rfl rfl dX0_copyFrom_13 (va_up_self _ _ _) (by rw [e_r2, va_up_up]) ?_
  refine q_aload_n X 0 dX0_copyFrom_16 rfl ?_
  refine q_aload_n X 1 dX0_copyFrom_17 rfl ?_
  refine q_geti (fk := 2) (x := ρ2 18) X cf_X0 (ac_2_2 hT_g2) (by decide) fl_X0_18 rfl rfl dX0_copyFrom_18 ((va_up_ne _ _ hne).trans (hr_g2)) rfl ?_
  obtain ⟨r3, e_r3⟩ : ∃ z : Nat → Int32, z = va_up r2 18 (ρ2 18) := ⟨_, rfl⟩
  refine q_put (fk := 2) (h2 := va_up h g r3) X cf_X0 (ac_2_2 hT_g) (by decide) fl_X0_18 rfl rfl (by rw [hT_g]; rfl) rfl rfl rfl dX0_copyFrom_21 (va_up_self _ _ _) (by rw [e_r3, va_up_up]) ?_
  refine q_aload_n X 0 dX0_copyFrom_24 rfl ?_
  refine q_aload_n X 1 dX0_copyFrom_25 rfl ?_
  refine q_geti (fk := 3) (x := ρ2 19) X cf_X0 (ac_2_2 hT_g2) (by decide) fl_X0_21 rfl rfl dX0_copyFrom_26 ((va_up_ne _ _ hne).trans (hr_g2)) rfl ?_
  obtain ⟨r4, e_r4⟩ : ∃ z : Nat → Int32, z = va_up r3 19 (ρ2 19) := ⟨_, rfl⟩
  refine q_put (fk := 3) (h2 := va_up h g r4) X cf_X0 (ac_2_2 hT_g) (by decide) fl_X0_21 rfl rfl (by rw [hT_g]; rfl) rfl rfl rfl dX0_copyFrom_29 (va_up_self _ _ _) (by rw [e_r4, va_up_up]) ?_
  refine q_aload_n X 0 dX0_copyFrom_32 rfl ?_
  refine q_aload_n X 1 dX0_copyFrom_33 rfl ?_
  refine q_geti (fk := 4) (x := ρ2 20) X cf_X0 (ac_2_2 hT_g2) (by decide) fl_X0_24 rfl rfl dX0_copyFrom_34 ((va_up_ne _ _ hne).trans (hr_g2)) rfl ?_
  obtain ⟨r5, e_r5⟩ : ∃ z : Nat → Int32, z = va_up r4 20 (ρ2 20) := ⟨_, rfl⟩
  refine q_put (fk := 4) (h2 := va_up h g r5) X cf_X0 (ac_2_2 hT_g) (by decide) fl_X0_24 rfl rfl (by rw [hT_g]; rfl) rfl rfl rfl dX0_copyFrom_37 (va_up_self _ _ _) (by rw [e_r5, va_up_up]) ?_
  refine q_aload_n X 1 dX0_copyFrom_40 rfl ?_
  refine q_get (fk := 5) (v := .ref (gA G g2 3)) X cf_X0 (ac_2_2 hT_g2) (by decide) fl_X0_27 rfl rfl dX0_copyFrom_41 rfl ?_
  refine q_aload_n X 0 dX0_copyFrom_44 rfl ?_
  refine q_get (fk := 5) (v := .ref (gA G g 3)) X cf_X0 (ac_2_2 hT_g) (by decide) fl_X0_27 rfl rfl dX0_copyFrom_45 rfl ?_
  obtain ⟨r6, e_r6⟩ : ∃ z : Nat → Int32, z = S_copy ρ2 r5 26 1 6 := ⟨_, rfl⟩
  refine q_callSN (h1 := _) (rest := []) (As := [.ref (gA G g2 3), .ref (gA G g 3)]) X (c_X9_copyRow (l := l) hG (n := 6) (frm := ρ2) (row := r5) (ac_2_3 hT_g2) (ac_2_3 hT_g) ((va_up_ne _ _ hne).trans (hr_g2)) (va_up_self _ _ _) (by rw [hT_g2]; rfl) (by rw [hT_g]; rfl)) mf_X9_copyRow ms_X9_copyRow ln_X0_41 rfl ⟨by decide, by decide⟩ ⟨Nat.le_refl _, Nat.le_refl _⟩ rfl (Nat.le_of_ble_eq_true rfl) dX0_copyFrom_48 (st2 := []) rfl ?_
  refine q_eq (h2 := va_up h g r6) (by rw [e_r6]; exact va_up_up _ _ _ _) rfl ?_
  refine q_aload_n X 0 dX0_copyFrom_51 rfl ?_
  refine q_aload_n X 1 dX0_copyFrom_52 rfl ?_
  refine q_geti (fk := 6) (x := ρ2 23) X cf_X0 (ac_2_2 hT_g2) (by decide) fl_X0_32 rfl rfl dX0_copyFrom_53 ((va_up_ne _ _ hne).trans (hr_g2)) rfl ?_
  obtain ⟨r7, e_r7⟩ : ∃ z : Nat → Int32, z = va_up r6 23 (ρ2 23) := ⟨_, rfl⟩
  refine q_put (fk := 6) (h2 := va_up h g r7) X cf_X0 (ac_2_2 hT_g) (by decide) fl_X0_32 rfl rfl (by rw [hT_g]; rfl) rfl rfl rfl dX0_copyFrom_56 (va_up_self _ _ _) (by rw [e_r7, va_up_up]) ?_
  refine q_aload_n X 0 dX0_copyFrom_59 rfl ?_
  refine q_aload_n X 1 dX0_copyFrom_60 rfl ?_
  refine q_geti (fk := 7) (x := ρ2 24) X cf_X0 (ac_2_2 hT_g2) (by decide) fl_X0_35 rfl rfl dX0_copyFrom_61 ((va_up_ne _ _ hne).trans (hr_g2)) rfl ?_
  obtain ⟨r8, e_r8⟩ : ∃ z : Nat → Int32, z = va_up r7 24 (ρ2 24) := ⟨_, rfl⟩
  refine q_put (fk := 7) (h2 := va_up h g r8) X cf_X0 (ac_2_2 hT_g) (by decide) fl_X0_35 rfl rfl (by rw [hT_g]; rfl) rfl rfl rfl dX0_copyFrom_64 (va_up_self _ _ _) (by rw [e_r8, va_up_up]) ?_
  refine q_aload_n X 0 dX0_copyFrom_67 rfl ?_
  refine q_aload_n X 1 dX0_copyFrom_68 rfl ?_
  refine q_geti (fk := 8) (x := ρ2 25) X cf_X0 (ac_2_2 hT_g2) (by decide) fl_X0_38 rfl rfl dX0_copyFrom_69 ((va_up_ne _ _ hne).trans (hr_g2)) rfl ?_
  obtain ⟨r9, e_r9⟩ : ∃ z : Nat → Int32, z = va_up r8 25 (ρ2 25) := ⟨_, rfl⟩
  refine q_put (fk := 8) (h2 := va_up h g r9) X cf_X0 (ac_2_2 hT_g) (by decide) fl_X0_38 rfl rfl (by rw [hT_g]; rfl) rfl rfl rfl dX0_copyFrom_72 (va_up_self _ _ _) (by rw [e_r9, va_up_up]) ?_
  have E : Z = r9 := by subst e_r9; subst e_r8; subst e_r7; subst e_r6; subst e_r5; subst e_r4; subst e_r3; subst e_r2; subst e_r1; exact hZ.symm.trans (rfl)
  exact q_vret X hret dX0_copyFrom_75 rfl (by rw [E])
def L_X0_start_27 (fu : Nat) (ρ : Nat → Int32) (ma : Int32) (am : Int32) (k : Int32) (ρ1 : Nat → Int32) : (Nat → Int32) := match fu with
  | 0 => (fun _ => 0)
  | fu + 1 => if 6 ≤ k then (let r7 : Nat → Int32 := va_up ρ1 23 (-100009); let r8 : Nat → Int32 := va_up r7 24 (-100009); let r9 : Nat → Int32 := va_up r8 25 am; r9) else (let r10 : Nat → Int32 := S_put ρ1 26 1 6 k 0; L_X0_start_27 fu ρ ma am (k + 1) r10)
def S_X0_start (ρ : Nat → Int32) (ma : Int32) (am : Int32) : (Nat → Int32) := let r1 : Nat → Int32 := va_up ρ 16 am; let r2 : Nat → Int32 := va_up r1 17 ma; let r3 : Nat → Int32 := va_up r2 18 0; let r4 : Nat → Int32 := va_up r3 19 0; let r5 : Nat → Int32 := va_up r4 20 0; L_X0_start_27 7 ρ ma am 0 r5
set_option maxRecDepth 100000 in
set_option maxHeartbeats 4000000 in
theorem w_X0_start_27 {G : Geo} {p : Program} {l : Launch} {e : Env} {s : State} {m : MethodId} {args : Array Value} {below : List Frame} {meth : Method} {c : Code} {h : Hp} {g : Nat} {ρ : Nat → Int32} {ma : Int32} {am : Int32} (X : CX G (AA G) p s m meth c RX0 cX0_start 4) (hret : meth.sig.returnType = none) (hT_g : gT G g = 2) (hr_g : h g = ρ) (Z : (Nat → Int32)) : ∀ (fu : Nat) (k : Int32) (ρ1 : Nat → Int32), ((6 : Int32).toInt - k.toInt).toNat < fu → L_X0_start_27 fu ρ ma am k ρ1 = Z → VV G (AA G) p l e { frames := 1, cells := 0, slots := 0, locals := 22 } s m args below meth c 0 0 (MQ below (QC G (va_up h g Z) none) args s 0 0 (AA G)) 4 (va_up h g ρ1) 27 [(0, .ref (gA G g 2)), (1, .int ma), (2, .int am), (3, .int k)] [] := by
  intro fu
  induction fu with
  | zero =>
    intro k ρ1  hm
    exact absurd hm (Nat.not_lt_zero _)
  | succ fu ih =>
    intro k ρ1  hm hZ
    have hG := X.2.2.2.2.2.1
    refine q_iload_n X 3 dX0_start_27 rfl ?_
    refine q_bipush (v := 6) X dX0_start_28 (by decide) ?_
    refine q_icmp_ge (tgt := 48) X dX0_start_30 (by decide) (fun c6 => ?_) (fun c6 => ?_)
    · skip
      refine q_aload_n X 0 dX0_start_48 rfl ?_
      refine q_ldc X kc_X0_31 dX0_start_49 ?_
      obtain ⟨r7, e_r7⟩ : ∃ z : Nat → Int32, z = va_up ρ1 23 (-100009) := ⟨_, rfl⟩
      refine q_put (fk := 6) (h2 := va_up h g r7) X cf_X0 (ac_2_2 hT_g) (by decide) fl_X0_32 rfl rfl (by rw [hT_g]; rfl) rfl rfl rfl dX0_start_51 (va_up_self _ _ _) (by rw [e_r7, va_up_up]) ?_
      refine q_aload_n X 0 dX0_start_54 rfl ?_
      refine q_ldc X kc_X0_31 dX0_start_55 ?_
      obtain ⟨r8, e_r8⟩ : ∃ z : Nat → Int32, z = va_up r7 24 (-100009) := ⟨_, rfl⟩
      refine q_put (fk := 7) (h2 := va_up h g r8) X cf_X0 (ac_2_2 hT_g) (by decide) fl_X0_35 rfl rfl (by rw [hT_g]; rfl) rfl rfl rfl dX0_start_57 (va_up_self _ _ _) (by rw [e_r8, va_up_up]) ?_
      refine q_aload_n X 0 dX0_start_60 rfl ?_
      refine q_iload_n X 2 dX0_start_61 rfl ?_
      obtain ⟨r9, e_r9⟩ : ∃ z : Nat → Int32, z = va_up r8 25 am := ⟨_, rfl⟩
      refine q_put (fk := 8) (h2 := va_up h g r9) X cf_X0 (ac_2_2 hT_g) (by decide) fl_X0_38 rfl rfl (by rw [hT_g]; rfl) rfl rfl rfl dX0_start_62 (va_up_self _ _ _) (by rw [e_r9, va_up_up]) ?_
      have E : Z = r9 := by subst e_r9; subst e_r8; subst e_r7; exact hZ.symm.trans ((if_pos c6).trans rfl)
      exact q_vret X hret dX0_start_65 rfl (by rw [E])
    · skip
      refine q_aload_n X 0 dX0_start_33 rfl ?_
      refine q_get (fk := 5) (v := .ref (gA G g 3)) X cf_X0 (ac_2_2 hT_g) (by decide) fl_X0_27 rfl rfl dX0_start_34 rfl ?_
      refine q_iload_n X 3 dX0_start_37 rfl ?_
      refine q_iconst (v := 0) X dX0_start_38 (by decide) ?_
      obtain ⟨r10, e_r10⟩ : ∃ z : Nat → Int32, z = S_put ρ1 26 1 6 k 0 := ⟨_, rfl⟩
      refine q_callSN (h1 := _) (rest := []) (As := [.ref (gA G g 3), .int k, .int 0]) X (c_X9_put (l := l) hG (n := 6) (row := ρ1) k 0 (ac_2_3 hT_g) (va_up_self _ _ _) (by rw [hT_g]; rfl)) mf_X9_put ms_X9_put ln_X0_45 rfl ⟨by decide, by decide⟩ ⟨Nat.le_refl _, Nat.le_refl _⟩ rfl (Nat.le_of_ble_eq_true rfl) dX0_start_39 (st2 := []) rfl ?_
      refine q_eq (h2 := va_up h g r10) (by rw [e_r10]; exact va_up_up _ _ _ _) rfl ?_
      refine q_iinc (v := k + 1) (lv' := [(3, .int (k + 1)), (0, .ref (gA G g 2)), (1, .int ma), (2, .int am)]) X 3 dX0_start_42 rfl rfl (by decide) rfl ?_
      refine q_goto (tgt := 27) X dX0_start_45 (by decide) ?_
      refine q_sub (lv2 := [(0, .ref (gA G g 2)), (1, .int ma), (2, .int am), (3, .int (k + 1))]) [1, 2, 3, 0] rfl ?_
      have E : L_X0_start_27 fu ρ ma am (k + 1) r10 = Z := Eq.trans (Eq.symm (by subst e_r10; exact (if_neg c6).trans rfl)) hZ
      exact ih (k + 1) r10  (by subst e_r10; exact ms_up c6 hm) E
set_option maxRecDepth 100000 in
set_option maxHeartbeats 4000000 in
theorem c_X0_start {G : Geo} {l : Launch} (hG : GOK G) {g : Nat} {h : Hp} {ρ : Nat → Int32} (ma : Int32) (am : Int32) (hT_g : gT G g = 2) (hr_g : h g = ρ) : CM G l yX0_start cX0_start 4 none 1 22 [.ref (gA G g 2), .int ma, .int am] h (va_up h g (S_X0_start ρ ma am)) none := by
  obtain ⟨Z, hZ⟩ : ∃ Z, S_X0_start ρ ma am = Z := ⟨_, rfl⟩
  rw [hZ]
  refine q_enter hG mf_X0_start (Nat.le_of_ble_eq_true rfl) ?_
  intro p e s m below meth c X hret
  refine q_lv (lv2 := [(0, .ref (gA G g 2)), (1, .int ma), (2, .int am)]) rfl ?_
  refine q_aload_n X 0 dX0_start_0 rfl ?_
  refine q_iload_n X 2 dX0_start_1 rfl ?_
  obtain ⟨r1, e_r1⟩ : ∃ z : Nat → Int32, z = va_up ρ 16 am := ⟨_, rfl⟩
  refine q_put (fk := 0) (h2 := va_up h g r1) X cf_X0 (ac_2_2 hT_g) (by decide) fl_X0_9 rfl rfl (by rw [hT_g]; rfl) rfl rfl rfl dX0_start_2 (hr_g) (by rw [e_r1]) ?_
  refine q_aload_n X 0 dX0_start_5 rfl ?_
  refine q_iload_n X 1 dX0_start_6 rfl ?_
  obtain ⟨r2, e_r2⟩ : ∃ z : Nat → Int32, z = va_up r1 17 ma := ⟨_, rfl⟩
  refine q_put (fk := 1) (h2 := va_up h g r2) X cf_X0 (ac_2_2 hT_g) (by decide) fl_X0_15 rfl rfl (by rw [hT_g]; rfl) rfl rfl rfl dX0_start_7 (va_up_self _ _ _) (by rw [e_r2, va_up_up]) ?_
  refine q_aload_n X 0 dX0_start_10 rfl ?_
  refine q_iconst (v := 0) X dX0_start_11 (by decide) ?_
  obtain ⟨r3, e_r3⟩ : ∃ z : Nat → Int32, z = va_up r2 18 0 := ⟨_, rfl⟩
  refine q_put (fk := 2) (h2 := va_up h g r3) X cf_X0 (ac_2_2 hT_g) (by decide) fl_X0_18 rfl rfl (by rw [hT_g]; rfl) rfl rfl rfl dX0_start_12 (va_up_self _ _ _) (by rw [e_r3, va_up_up]) ?_
  refine q_aload_n X 0 dX0_start_15 rfl ?_
  refine q_iconst (v := 0) X dX0_start_16 (by decide) ?_
  obtain ⟨r4, e_r4⟩ : ∃ z : Nat → Int32, z = va_up r3 19 0 := ⟨_, rfl⟩
  refine q_put (fk := 3) (h2 := va_up h g r4) X cf_X0 (ac_2_2 hT_g) (by decide) fl_X0_21 rfl rfl (by rw [hT_g]; rfl) rfl rfl rfl dX0_start_17 (va_up_self _ _ _) (by rw [e_r4, va_up_up]) ?_
  refine q_aload_n X 0 dX0_start_20 rfl ?_
  refine q_iconst (v := 0) X dX0_start_21 (by decide) ?_
  obtain ⟨r5, e_r5⟩ : ∃ z : Nat → Int32, z = va_up r4 20 0 := ⟨_, rfl⟩
  refine q_put (fk := 4) (h2 := va_up h g r5) X cf_X0 (ac_2_2 hT_g) (by decide) fl_X0_24 rfl rfl (by rw [hT_g]; rfl) rfl rfl rfl dX0_start_22 (va_up_self _ _ _) (by rw [e_r5, va_up_up]) ?_
  refine q_iconst (v := 0) X dX0_start_25 (by decide) ?_
  refine q_istore_n (lv' := [(3, .int 0), (0, .ref (gA G g 2)), (1, .int ma), (2, .int am)]) X dX0_start_26 (by decide) rfl ?_
  refine q_sub (lv2 := [(0, .ref (gA G g 2)), (1, .int ma), (2, .int am), (3, .int 0)]) [1, 2, 3, 0] rfl ?_
  have E : L_X0_start_27 7 ρ ma am 0 r5 = Z := Eq.trans (Eq.symm (by subst e_r5; subst e_r4; subst e_r3; subst e_r2; subst e_r1; exact rfl)) hZ
  exact w_X0_start_27 X hret hT_g hr_g Z 7 0 r5  (by subst e_r5; subst e_r4; subst e_r3; subst e_r2; subst e_r1; decide) E
def S_X0_roast (ρ : Nat → Int32) (dr : Int32) : (Nat → Int32) := let r1 : Nat → Int32 := va_up ρ 16 ((ρ 16) + (S_J9_floorDiv_7cf53 (dr - (ρ 16)) 20)); let r2 : Nat → Int32 := va_up r1 25 (S_J9_max_7cf53 (r1 25) (r1 16)); r2
set_option maxRecDepth 100000 in
set_option maxHeartbeats 4000000 in
theorem c_X0_roast {G : Geo} {l : Launch} (hG : GOK G) {g : Nat} {h : Hp} {ρ : Nat → Int32} (dr : Int32) (hT_g : gT G g = 2) (hr_g : h g = ρ) : CM G l yX0_roast cX0_roast 2 none 1 22 [.ref (gA G g 2), .int dr] h (va_up h g (S_X0_roast ρ dr)) none := by
  obtain ⟨Z, hZ⟩ : ∃ Z, S_X0_roast ρ dr = Z := ⟨_, rfl⟩
  rw [hZ]
  refine q_enter hG mf_X0_roast (Nat.le_of_ble_eq_true rfl) ?_
  intro p e s m below meth c X hret
  refine q_lv (lv2 := [(0, .ref (gA G g 2)), (1, .int dr)]) rfl ?_
  refine q_aload_n X 0 dX0_roast_0 rfl ?_
  refine q_dup X dX0_roast_1 rfl ?_
  refine q_geti (fk := 0) (x := ρ 16) X cf_X0 (ac_2_2 hT_g) (by decide) fl_X0_9 rfl rfl dX0_roast_2 (hr_g) rfl ?_
  refine q_iload_n X 1 dX0_roast_5 rfl ?_
  refine q_aload_n X 0 dX0_roast_6 rfl ?_
  refine q_geti (fk := 0) (x := ρ 16) X cf_X0 (ac_2_2 hT_g) (by decide) fl_X0_9 rfl rfl dX0_roast_7 (hr_g) rfl ?_
  refine q_isub X dX0_roast_10 ?_
  refine q_bipush (v := 20) X dX0_roast_11 (by decide) ?_
  refine q_callS (h1 := _) (rest := [.int (ρ 16), .ref (gA G g 2)]) (As := [.int (dr - (ρ 16)), .int 20]) X (c_J9_floorDiv_7cf53 (l := l) hG   (dr - (ρ 16)) 20 (by decide)) mf_J9_floorDiv_7cf53 ms_J9_floorDiv_7cf53 lk_X0_49 rfl ⟨by decide, by decide⟩ ⟨Nat.le_refl _, Nat.le_refl _⟩ rfl (Nat.le_of_ble_eq_true rfl) dX0_roast_13 (st2 := [.int (S_J9_floorDiv_7cf53 (dr - (ρ 16)) 20), .int (ρ 16), .ref (gA G g 2)]) rfl ?_
  refine q_iadd X dX0_roast_16 ?_
  obtain ⟨r1, e_r1⟩ : ∃ z : Nat → Int32, z = va_up ρ 16 ((ρ 16) + (S_J9_floorDiv_7cf53 (dr - (ρ 16)) 20)) := ⟨_, rfl⟩
  refine q_put (fk := 0) (h2 := va_up h g r1) X cf_X0 (ac_2_2 hT_g) (by decide) fl_X0_9 rfl rfl (by rw [hT_g]; rfl) rfl rfl rfl dX0_roast_17 (hr_g) (by rw [e_r1]) ?_
  refine q_aload_n X 0 dX0_roast_20 rfl ?_
  refine q_aload_n X 0 dX0_roast_21 rfl ?_
  refine q_geti (fk := 8) (x := r1 25) X cf_X0 (ac_2_2 hT_g) (by decide) fl_X0_38 rfl rfl dX0_roast_22 (va_up_self _ _ _) rfl ?_
  refine q_aload_n X 0 dX0_roast_25 rfl ?_
  refine q_geti (fk := 0) (x := r1 16) X cf_X0 (ac_2_2 hT_g) (by decide) fl_X0_9 rfl rfl dX0_roast_26 (va_up_self _ _ _) rfl ?_
  refine q_callS (h1 := _) (rest := [.ref (gA G g 2)]) (As := [.int (r1 25), .int (r1 16)]) X (c_J9_max_7cf53 (l := l) hG   (r1 25) (r1 16) ) mf_J9_max_7cf53 ms_J9_max_7cf53 lk_X0_55 rfl ⟨by decide, by decide⟩ ⟨Nat.le_refl _, Nat.le_refl _⟩ rfl (Nat.le_of_ble_eq_true rfl) dX0_roast_29 (st2 := [.int (S_J9_max_7cf53 (r1 25) (r1 16)), .ref (gA G g 2)]) rfl ?_
  obtain ⟨r2, e_r2⟩ : ∃ z : Nat → Int32, z = va_up r1 25 (S_J9_max_7cf53 (r1 25) (r1 16)) := ⟨_, rfl⟩
  refine q_put (fk := 8) (h2 := va_up h g r2) X cf_X0 (ac_2_2 hT_g) (by decide) fl_X0_38 rfl rfl (by rw [hT_g]; rfl) rfl rfl rfl dX0_roast_32 (va_up_self _ _ _) (by rw [e_r2, va_up_up]) ?_
  have E : Z = r2 := by subst e_r2; subst e_r1; exact hZ.symm.trans (rfl)
  exact q_vret X hret dX0_roast_35 rfl (by rw [E])
def S_X0_cool (ρ : Nat → Int32) (am : Int32) (fa : Int32) : (Nat → Int32) := let r1 : Nat → Int32 := va_up ρ 16 ((ρ 16) - (S_J9_floorDiv_7cf53 (((ρ 16) - am) * fa) 100)); r1
set_option maxRecDepth 100000 in
set_option maxHeartbeats 4000000 in
theorem c_X0_cool {G : Geo} {l : Launch} (hG : GOK G) {g : Nat} {h : Hp} {ρ : Nat → Int32} (am : Int32) (fa : Int32) (hT_g : gT G g = 2) (hr_g : h g = ρ) : CM G l yX0_cool cX0_cool 3 none 1 22 [.ref (gA G g 2), .int am, .int fa] h (va_up h g (S_X0_cool ρ am fa)) none := by
  obtain ⟨Z, hZ⟩ : ∃ Z, S_X0_cool ρ am fa = Z := ⟨_, rfl⟩
  rw [hZ]
  refine q_enter hG mf_X0_cool (Nat.le_of_ble_eq_true rfl) ?_
  intro p e s m below meth c X hret
  refine q_lv (lv2 := [(0, .ref (gA G g 2)), (1, .int am), (2, .int fa)]) rfl ?_
  refine q_aload_n X 0 dX0_cool_0 rfl ?_
  refine q_dup X dX0_cool_1 rfl ?_
  refine q_geti (fk := 0) (x := ρ 16) X cf_X0 (ac_2_2 hT_g) (by decide) fl_X0_9 rfl rfl dX0_cool_2 (hr_g) rfl ?_
  refine q_aload_n X 0 dX0_cool_5 rfl ?_
  refine q_geti (fk := 0) (x := ρ 16) X cf_X0 (ac_2_2 hT_g) (by decide) fl_X0_9 rfl rfl dX0_cool_6 (hr_g) rfl ?_
  refine q_iload_n X 1 dX0_cool_9 rfl ?_
  refine q_isub X dX0_cool_10 ?_
  refine q_iload_n X 2 dX0_cool_11 rfl ?_
  refine q_imul X dX0_cool_12 ?_
  refine q_bipush (v := 100) X dX0_cool_13 (by decide) ?_
  refine q_callS (h1 := _) (rest := [.int (ρ 16), .ref (gA G g 2)]) (As := [.int (((ρ 16) - am) * fa), .int 100]) X (c_J9_floorDiv_7cf53 (l := l) hG   (((ρ 16) - am) * fa) 100 (by decide)) mf_J9_floorDiv_7cf53 ms_J9_floorDiv_7cf53 lk_X0_49 rfl ⟨by decide, by decide⟩ ⟨Nat.le_refl _, Nat.le_refl _⟩ rfl (Nat.le_of_ble_eq_true rfl) dX0_cool_15 (st2 := [.int (S_J9_floorDiv_7cf53 (((ρ 16) - am) * fa) 100), .int (ρ 16), .ref (gA G g 2)]) rfl ?_
  refine q_isub X dX0_cool_18 ?_
  obtain ⟨r1, e_r1⟩ : ∃ z : Nat → Int32, z = va_up ρ 16 ((ρ 16) - (S_J9_floorDiv_7cf53 (((ρ 16) - am) * fa) 100)) := ⟨_, rfl⟩
  refine q_put (fk := 0) (h2 := va_up h g r1) X cf_X0 (ac_2_2 hT_g) (by decide) fl_X0_9 rfl rfl (by rw [hT_g]; rfl) rfl rfl rfl dX0_cool_19 (hr_g) (by rw [e_r1]) ?_
  have E : Z = r1 := by subst e_r1; exact hZ.symm.trans (rfl)
  exact q_vret X hret dX0_cool_22 rfl (by rw [E])
def S_X0_pop (ρ : Nat → Int32) (ct : Int32) : (Nat → Int32) := let m2 : Int32 := if (ρ 16) < ct then (0) else (S_J9_min_7cf53 ((S_J9_floorDiv_7cf53 ((ρ 16) - ct) 2) + 1) (1000 - (ρ 20))); let r4 : Nat → Int32 := S_put ρ 26 1 6 (S_J9_floorMod_7cf53 (ρ 18) 6) m2; let r5 : Nat → Int32 := va_up r4 20 ((r4 20) + m2); r5
set_option maxRecDepth 100000 in
set_option maxHeartbeats 4000000 in
theorem c_X0_pop {G : Geo} {l : Launch} (hG : GOK G) {g : Nat} {h : Hp} {ρ : Nat → Int32} (ct : Int32) (hT_g : gT G g = 2) (hr_g : h g = ρ) : CM G l yX0_pop cX0_pop 4 none 1 22 [.ref (gA G g 2), .int ct] h (va_up h g (S_X0_pop ρ ct)) none := by
  obtain ⟨Z, hZ⟩ : ∃ Z, S_X0_pop ρ ct = Z := ⟨_, rfl⟩
  rw [hZ]
  refine q_enter hG mf_X0_pop (Nat.le_of_ble_eq_true rfl) ?_
  intro p e s m below meth c X hret
  refine q_lv (lv2 := [(0, .ref (gA G g 2)), (1, .int ct)]) rfl ?_
  refine q_iconst (v := 0) X dX0_pop_0 (by decide) ?_
  refine q_istore_n (lv' := [(2, .int 0), (0, .ref (gA G g 2)), (1, .int ct)]) X dX0_pop_1 (by decide) rfl ?_
  refine q_aload_n X 1 dX0_pop_2 rfl ?_
  refine q_geti (fk := 0) (x := ρ 16) X cf_X0 (ac_2_2 hT_g) (by decide) fl_X0_9 rfl rfl dX0_pop_3 (hr_g) rfl ?_
  refine q_iload_n X 2 dX0_pop_6 rfl ?_
  suffices hJ3 : ∀ (m2 : Int32), m2 = (if (ρ 16) < ct then (0) else (S_J9_min_7cf53 ((S_J9_floorDiv_7cf53 ((ρ 16) - ct) 2) + 1) (1000 - (ρ 20)))) → VV G (AA G) p l e { frames := 1, cells := 0, slots := 0, locals := 22 } s m ([.ref (gA G g 2), .int ct] : List Value).toArray below meth c 0 0 (MQ below (QC G (va_up h g Z) none) ([.ref (gA G g 2), .int ct] : List Value).toArray s 0 0 (AA G)) 4 h 36 [(2, .int m2), (0, .ref (gA G g 2)), (1, .int ct)] [] by
    refine q_icmp_lt (tgt := 36) X dX0_pop_7 (by decide) (fun c1 => ?_) (fun c1 => ?_)
    · skip
      refine q_sub (lv2 := [(2, .int 0), (0, .ref (gA G g 2)), (1, .int ct)]) [0, 1, 2] rfl ?_
      exact hJ3 0 (by exact ((if_pos c1).trans rfl).symm)
    · skip
      refine q_aload_n X 1 dX0_pop_10 rfl ?_
      refine q_geti (fk := 0) (x := ρ 16) X cf_X0 (ac_2_2 hT_g) (by decide) fl_X0_9 rfl rfl dX0_pop_11 (hr_g) rfl ?_
      refine q_iload_n X 2 dX0_pop_14 rfl ?_
      refine q_isub X dX0_pop_15 ?_
      refine q_iconst (v := 2) X dX0_pop_16 (by decide) ?_
      refine q_callS (h1 := _) (rest := []) (As := [.int ((ρ 16) - ct), .int 2]) X (c_J9_floorDiv_7cf53 (l := l) hG   ((ρ 16) - ct) 2 (by decide)) mf_J9_floorDiv_7cf53 ms_J9_floorDiv_7cf53 lk_X0_49 rfl ⟨by decide, by decide⟩ ⟨Nat.le_refl _, Nat.le_refl _⟩ rfl (Nat.le_of_ble_eq_true rfl) dX0_pop_17 (st2 := [.int (S_J9_floorDiv_7cf53 ((ρ 16) - ct) 2)]) rfl ?_
      refine q_iconst (v := 1) X dX0_pop_20 (by decide) ?_
      refine q_iadd X dX0_pop_21 ?_
      refine q_istore_n (lv' := [(3, .int ((S_J9_floorDiv_7cf53 ((ρ 16) - ct) 2) + 1)), (2, .int 0), (0, .ref (gA G g 2)), (1, .int ct)]) X dX0_pop_22 (by decide) rfl ?_
      refine q_iload_n X 0 dX0_pop_23 rfl ?_
      refine q_sipush (v := 1000) X dX0_pop_24 (by decide) ?_
      refine q_aload_n X 2 dX0_pop_27 rfl ?_
      refine q_geti (fk := 4) (x := ρ 20) X cf_X0 (ac_2_2 hT_g) (by decide) fl_X0_24 rfl rfl dX0_pop_28 (hr_g) rfl ?_
      refine q_isub X dX0_pop_31 ?_
      refine q_callS (h1 := _) (rest := []) (As := [.int ((S_J9_floorDiv_7cf53 ((ρ 16) - ct) 2) + 1), .int (1000 - (ρ 20))]) X (c_J9_min_7cf53 (l := l) hG   ((S_J9_floorDiv_7cf53 ((ρ 16) - ct) 2) + 1) (1000 - (ρ 20)) ) mf_J9_min_7cf53 ms_J9_min_7cf53 lk_X0_58 rfl ⟨by decide, by decide⟩ ⟨Nat.le_refl _, Nat.le_refl _⟩ rfl (Nat.le_of_ble_eq_true rfl) dX0_pop_32 (st2 := [.int (S_J9_min_7cf53 ((S_J9_floorDiv_7cf53 ((ρ 16) - ct) 2) + 1) (1000 - (ρ 20)))]) rfl ?_
      refine q_istore_n (lv' := [(2, .int (S_J9_min_7cf53 ((S_J9_floorDiv_7cf53 ((ρ 16) - ct) 2) + 1) (1000 - (ρ 20)))), (3, .int ((S_J9_floorDiv_7cf53 ((ρ 16) - ct) 2) + 1)), (0, .ref (gA G g 2)), (1, .int ct)]) X dX0_pop_35 (by decide) rfl ?_
      refine q_sub (lv2 := [(2, .int (S_J9_min_7cf53 ((S_J9_floorDiv_7cf53 ((ρ 16) - ct) 2) + 1) (1000 - (ρ 20)))), (0, .ref (gA G g 2)), (1, .int ct)]) [0, 2, 3] rfl ?_
      exact hJ3 (S_J9_min_7cf53 ((S_J9_floorDiv_7cf53 ((ρ 16) - ct) 2) + 1) (1000 - (ρ 20))) (by exact ((if_neg c1).trans rfl).symm)
  intro m2 e_m2
  refine q_aload_n X 1 dX0_pop_36 rfl ?_
  refine q_get (fk := 5) (v := .ref (gA G g 3)) X cf_X0 (ac_2_2 hT_g) (by decide) fl_X0_27 rfl rfl dX0_pop_37 rfl ?_
  refine q_aload_n X 1 dX0_pop_40 rfl ?_
  refine q_geti (fk := 2) (x := ρ 18) X cf_X0 (ac_2_2 hT_g) (by decide) fl_X0_18 rfl rfl dX0_pop_41 (hr_g) rfl ?_
  refine q_bipush (v := 6) X dX0_pop_44 (by decide) ?_
  refine q_callS (h1 := _) (rest := [.ref (gA G g 3)]) (As := [.int (ρ 18), .int 6]) X (c_J9_floorMod_7cf53 (l := l) hG   (ρ 18) 6 (by decide)) mf_J9_floorMod_7cf53 ms_J9_floorMod_7cf53 lk_X0_61 rfl ⟨by decide, by decide⟩ ⟨Nat.le_refl _, Nat.le_refl _⟩ rfl (Nat.le_of_ble_eq_true rfl) dX0_pop_46 (st2 := [.int (S_J9_floorMod_7cf53 (ρ 18) 6), .ref (gA G g 3)]) rfl ?_
  refine q_iload_n X 0 dX0_pop_49 rfl ?_
  obtain ⟨r4, e_r4⟩ : ∃ z : Nat → Int32, z = S_put ρ 26 1 6 (S_J9_floorMod_7cf53 (ρ 18) 6) m2 := ⟨_, rfl⟩
  refine q_callSN (h1 := _) (rest := []) (As := [.ref (gA G g 3), .int (S_J9_floorMod_7cf53 (ρ 18) 6), .int m2]) X (c_X9_put (l := l) hG (n := 6) (row := ρ) (S_J9_floorMod_7cf53 (ρ 18) 6) m2 (ac_2_3 hT_g) (hr_g) (by rw [hT_g]; rfl)) mf_X9_put ms_X9_put ln_X0_45 rfl ⟨by decide, by decide⟩ ⟨Nat.le_refl _, Nat.le_refl _⟩ rfl (Nat.le_of_ble_eq_true rfl) dX0_pop_50 (st2 := []) rfl ?_
  refine q_eq (h2 := va_up h g r4) (by rw [e_r4]) rfl ?_
  refine q_aload_n X 1 dX0_pop_53 rfl ?_
  refine q_dup X dX0_pop_54 rfl ?_
  refine q_geti (fk := 4) (x := r4 20) X cf_X0 (ac_2_2 hT_g) (by decide) fl_X0_24 rfl rfl dX0_pop_55 (va_up_self _ _ _) rfl ?_
  refine q_iload_n X 0 dX0_pop_58 rfl ?_
  refine q_iadd X dX0_pop_59 ?_
  obtain ⟨r5, e_r5⟩ : ∃ z : Nat → Int32, z = va_up r4 20 ((r4 20) + m2) := ⟨_, rfl⟩
  refine q_put (fk := 4) (h2 := va_up h g r5) X cf_X0 (ac_2_2 hT_g) (by decide) fl_X0_24 rfl rfl (by rw [hT_g]; rfl) rfl rfl rfl dX0_pop_60 (va_up_self _ _ _) (by rw [e_r5, va_up_up]) ?_
  have E : Z = r5 := by subst e_r5; subst e_r4; subst e_m2; exact hZ.symm.trans (rfl)
  exact q_vret X hret dX0_pop_63 rfl (by rw [E])
def L_X0_window_4 (fu : Nat) (ρ : Nat → Int32) (wi : Int32) (k : Int32) : Int32 := match fu with
  | 0 => 0
  | fu + 1 => if 6 ≤ k then (wi) else (L_X0_window_4 fu ρ (wi + (S_at ρ 26 1 6 k)) (k + 1))
def S_X0_window (ρ : Nat → Int32) : Int32 := L_X0_window_4 7 ρ 0 0
set_option maxRecDepth 100000 in
set_option maxHeartbeats 4000000 in
theorem w_X0_window_4 {G : Geo} {p : Program} {l : Launch} {e : Env} {s : State} {m : MethodId} {args : Array Value} {below : List Frame} {meth : Method} {c : Code} {h : Hp} {g : Nat} {ρ : Nat → Int32} (X : CX G (AA G) p s m meth c RX0 cX0_window 3) (hret : meth.sig.returnType = (some .int)) (hT_g : gT G g = 2) (hr_g : h g = ρ) (Z : Int32) : ∀ (fu : Nat) (wi : Int32) (k : Int32), ((6 : Int32).toInt - k.toInt).toNat < fu → L_X0_window_4 fu ρ wi k = Z → VV G (AA G) p l e { frames := 1, cells := 0, slots := 0, locals := 21 } s m args below meth c 0 0 (MQ below (QC G h (some (.int Z))) args s 0 0 (AA G)) 3 h 4 [(0, .ref (gA G g 2)), (1, .int wi), (2, .int k)] [] := by
  intro fu
  induction fu with
  | zero =>
    intro wi k  hm
    exact absurd hm (Nat.not_lt_zero _)
  | succ fu ih =>
    intro wi k  hm hZ
    have hG := X.2.2.2.2.2.1
    refine q_iload_n X 2 dX0_window_4 rfl ?_
    refine q_bipush (v := 6) X dX0_window_5 (by decide) ?_
    refine q_icmp_ge (tgt := 27) X dX0_window_7 (by decide) (fun c1 => ?_) (fun c1 => ?_)
    · skip
      refine q_iload_n X 1 dX0_window_27 rfl ?_
      have E : Z = wi := by exact hZ.symm.trans ((if_pos c1).trans rfl)
      exact q_iret X hret dX0_window_28 (by rw [E]) rfl
    · skip
      refine q_iload_n X 1 dX0_window_10 rfl ?_
      refine q_aload_n X 0 dX0_window_11 rfl ?_
      refine q_get (fk := 5) (v := .ref (gA G g 3)) X cf_X0 (ac_2_2 hT_g) (by decide) fl_X0_27 rfl rfl dX0_window_12 rfl ?_
      refine q_iload_n X 2 dX0_window_15 rfl ?_
      refine q_callSN (h1 := _) (rest := [.int wi]) (As := [.ref (gA G g 3), .int k]) X (c_X9_at (l := l) hG (n := 6) (row := ρ) k (ac_2_3 hT_g) (hr_g) (by rw [hT_g]; rfl)) mf_X9_at ms_X9_at ln_X0_68 rfl ⟨by decide, by decide⟩ ⟨Nat.le_refl _, Nat.le_refl _⟩ rfl (Nat.le_of_ble_eq_true rfl) dX0_window_16 (st2 := [.int (S_at ρ 26 1 6 k), .int wi]) rfl ?_
      refine q_iadd X dX0_window_19 ?_
      refine q_istore_n (lv' := [(1, .int (wi + (S_at ρ 26 1 6 k))), (0, .ref (gA G g 2)), (2, .int k)]) X dX0_window_20 (by decide) rfl ?_
      refine q_iinc (v := k + 1) (lv' := [(2, .int (k + 1)), (1, .int (wi + (S_at ρ 26 1 6 k))), (0, .ref (gA G g 2))]) X 2 dX0_window_21 rfl rfl (by decide) rfl ?_
      refine q_goto (tgt := 4) X dX0_window_24 (by decide) ?_
      refine q_sub (lv2 := [(0, .ref (gA G g 2)), (1, .int (wi + (S_at ρ 26 1 6 k))), (2, .int (k + 1))]) [2, 1, 0] rfl ?_
      have E : L_X0_window_4 fu ρ (wi + (S_at ρ 26 1 6 k)) (k + 1) = Z := Eq.trans (Eq.symm (by exact (if_neg c1).trans rfl)) hZ
      exact ih (wi + (S_at ρ 26 1 6 k)) (k + 1)  (by exact ms_up c1 hm) E
set_option maxRecDepth 100000 in
set_option maxHeartbeats 4000000 in
theorem c_X0_window {G : Geo} {l : Launch} (hG : GOK G) {g : Nat} {h : Hp} {ρ : Nat → Int32} (hT_g : gT G g = 2) (hr_g : h g = ρ) : CM G l yX0_window cX0_window 3 (some .int) 1 21 [.ref (gA G g 2)] h h (some (.int (S_X0_window ρ))) := by
  obtain ⟨Z, hZ⟩ : ∃ Z, S_X0_window ρ = Z := ⟨_, rfl⟩
  rw [hZ]
  refine q_enter hG mf_X0_window (Nat.le_of_ble_eq_true rfl) ?_
  intro p e s m below meth c X hret
  refine q_lv (lv2 := [(0, .ref (gA G g 2))]) rfl ?_
  refine q_iconst (v := 0) X dX0_window_0 (by decide) ?_
  refine q_istore_n (lv' := [(1, .int 0), (0, .ref (gA G g 2))]) X dX0_window_1 (by decide) rfl ?_
  refine q_iconst (v := 0) X dX0_window_2 (by decide) ?_
  refine q_istore_n (lv' := [(2, .int 0), (1, .int 0), (0, .ref (gA G g 2))]) X dX0_window_3 (by decide) rfl ?_
  refine q_sub (lv2 := [(0, .ref (gA G g 2)), (1, .int 0), (2, .int 0)]) [2, 1, 0] rfl ?_
  have E : L_X0_window_4 7 ρ 0 0 = Z := Eq.trans (Eq.symm (by exact rfl)) hZ
  exact w_X0_window_4 X hret hT_g hr_g Z 7 0 0  (by decide) E
def S_X0_lookForCrack (ρ : Nat → Int32) (th : Int32) : (Nat → Int32) := let m2 : Int32 := if (S_X0_window ρ) < th then (0) else (1); let m5 : Nat → Int32 := if (ρ 23) = (-100009) then (if m2 = 0 then (ρ) else (let r10 : Nat → Int32 := va_up ρ 23 (ρ 18); r10)) else (if (ρ 24) = (-100009) then (if m2 = 0 then (let r8 : Nat → Int32 := va_up ρ 24 (ρ 18); r8) else (ρ)) else (ρ)); m5
set_option maxRecDepth 100000 in
set_option maxHeartbeats 4000000 in
theorem c_X0_lookForCrack {G : Geo} {l : Launch} (hG : GOK G) {g : Nat} {h : Hp} {ρ : Nat → Int32} (th : Int32) (hT_g : gT G g = 2) (hr_g : h g = ρ) : CM G l yX0_lookForCrack cX0_lookForCrack 3 none 2 43 [.ref (gA G g 2), .int th] h (va_up h g (S_X0_lookForCrack ρ th)) none := by
  obtain ⟨Z, hZ⟩ : ∃ Z, S_X0_lookForCrack ρ th = Z := ⟨_, rfl⟩
  rw [hZ]
  refine q_enter hG mf_X0_lookForCrack (Nat.le_of_ble_eq_true rfl) ?_
  intro p e s m below meth c X hret
  refine q_lv (lv2 := [(0, .ref (gA G g 2)), (1, .int th)]) rfl ?_
  refine q_aload_n X 0 dX0_lookForCrack_0 rfl ?_
  refine q_callV (h1 := _) (rest := []) (As := []) X (c_X0_window (l := l) hG (ρ := ρ)   hT_g (hr_g)) mf_X0_window mv_X0_window cf_X0 rfl (ac_2_2 hT_g) lk_X0_64 rfl ⟨by decide, by decide⟩ ⟨Nat.le_refl _, Nat.le_refl _⟩ rfl (Nat.le_of_ble_eq_true rfl) dX0_lookForCrack_1 (st2 := [.int (S_X0_window ρ)]) rfl ?_
  refine q_iload_n X 1 dX0_lookForCrack_4 rfl ?_
  suffices hJ3 : ∀ (m2 : Int32), m2 = (if (S_X0_window ρ) < th then (0) else (1)) → VV G (AA G) p l e { frames := 2, cells := 0, slots := 0, locals := 43 } s m ([.ref (gA G g 2), .int th] : List Value).toArray below meth c 0 0 (MQ below (QC G (va_up h g Z) none) ([.ref (gA G g 2), .int th] : List Value).toArray s 0 0 (AA G)) 3 h 13 [(0, .ref (gA G g 2)), (1, .int th)] [.int m2] by
    refine q_icmp_lt (tgt := 12) X dX0_lookForCrack_5 (by decide) (fun c1 => ?_) (fun c1 => ?_)
    · skip
      refine q_iconst (v := 0) X dX0_lookForCrack_12 (by decide) ?_
      refine q_sub (lv2 := [(0, .ref (gA G g 2)), (1, .int th)]) [0, 1] rfl ?_
      exact hJ3 0 (by exact ((if_pos c1).trans rfl).symm)
    · skip
      refine q_iconst (v := 1) X dX0_lookForCrack_8 (by decide) ?_
      refine q_goto (tgt := 13) X dX0_lookForCrack_9 (by decide) ?_
      refine q_sub (lv2 := [(0, .ref (gA G g 2)), (1, .int th)]) [0, 1] rfl ?_
      exact hJ3 1 (by exact ((if_neg c1).trans rfl).symm)
  intro m2 e_m2
  refine q_istore_n (lv' := [(2, .int m2), (0, .ref (gA G g 2)), (1, .int th)]) X dX0_lookForCrack_13 (by decide) rfl ?_
  refine q_aload_n X 1 dX0_lookForCrack_14 rfl ?_
  refine q_geti (fk := 6) (x := ρ 23) X cf_X0 (ac_2_2 hT_g) (by decide) fl_X0_32 rfl rfl dX0_lookForCrack_15 (hr_g) rfl ?_
  refine q_ldc X kc_X0_31 dX0_lookForCrack_18 ?_
  suffices hJ11 : ∀ (m5 : Nat → Int32), m5 = (if (ρ 23) = (-100009) then (if m2 = 0 then (ρ) else (let r10 : Nat → Int32 := va_up ρ 23 (ρ 18); r10)) else (if (ρ 24) = (-100009) then (if m2 = 0 then (let r8 : Nat → Int32 := va_up ρ 24 (ρ 18); r8) else (ρ)) else (ρ))) → VV G (AA G) p l e { frames := 2, cells := 0, slots := 0, locals := 43 } s m ([.ref (gA G g 2), .int th] : List Value).toArray below meth c 0 0 (MQ below (QC G (va_up h g Z) none) ([.ref (gA G g 2), .int th] : List Value).toArray s 0 0 (AA G)) 3 (va_up h g m5) 68 [(2, .int m2), (0, .ref (gA G g 2)), (1, .int th)] [] by
    refine q_icmp_ne (tgt := 38) X dX0_lookForCrack_20 (by decide) (fun c4 => ?_) (fun c4 => ?_)
    · skip
      refine q_aload_n X 1 dX0_lookForCrack_38 rfl ?_
      refine q_geti (fk := 6) (x := ρ 23) X cf_X0 (ac_2_2 hT_g) (by decide) fl_X0_32 rfl rfl dX0_lookForCrack_39 (hr_g) rfl ?_
      refine q_ldc X kc_X0_31 dX0_lookForCrack_42 ?_
      refine q_icmp_eq (tgt := 68) X dX0_lookForCrack_44 (by decide) (fun q => absurd q c4) (fun _ => ?_)
      refine q_aload_n X 1 dX0_lookForCrack_47 rfl ?_
      refine q_geti (fk := 7) (x := ρ 24) X cf_X0 (ac_2_2 hT_g) (by decide) fl_X0_35 rfl rfl dX0_lookForCrack_48 (hr_g) rfl ?_
      refine q_ldc X kc_X0_31 dX0_lookForCrack_51 ?_
      refine q_icmp_ne (tgt := 68) X dX0_lookForCrack_53 (by decide) (fun c6 => ?_) (fun c6 => ?_)
      · skip
        refine q_sub (lv2 := [(2, .int m2), (0, .ref (gA G g 2)), (1, .int th)]) [0, 1, 2] rfl ?_
        refine q_eq (h2 := va_up h g ρ) (va_up_id2 (hr_g)).symm rfl ?_
        exact hJ11 ρ (by exact ((if_neg c4).trans ((if_neg c6).trans rfl)).symm)
      · skip
        refine q_iload_n X 0 dX0_lookForCrack_56 rfl ?_
        refine q_if_ne (tgt := 68) X dX0_lookForCrack_57 (by decide) (fun c7 => ?_) (fun c7 => ?_)
        · skip
          refine q_sub (lv2 := [(2, .int m2), (0, .ref (gA G g 2)), (1, .int th)]) [0, 1, 2] rfl ?_
          refine q_eq (h2 := va_up h g ρ) (va_up_id2 (hr_g)).symm rfl ?_
          exact hJ11 ρ (by exact ((if_neg c4).trans ((if_pos c6).trans ((if_neg c7).trans rfl))).symm)
        · skip
          refine q_aload_n X 1 dX0_lookForCrack_60 rfl ?_
          refine q_aload_n X 1 dX0_lookForCrack_61 rfl ?_
          refine q_geti (fk := 2) (x := ρ 18) X cf_X0 (ac_2_2 hT_g) (by decide) fl_X0_18 rfl rfl dX0_lookForCrack_62 (hr_g) rfl ?_
          obtain ⟨r8, e_r8⟩ : ∃ z : Nat → Int32, z = va_up ρ 24 (ρ 18) := ⟨_, rfl⟩
          refine q_put (fk := 7) (h2 := va_up h g r8) X cf_X0 (ac_2_2 hT_g) (by decide) fl_X0_35 rfl rfl (by rw [hT_g]; rfl) rfl rfl rfl dX0_lookForCrack_65 (hr_g) (by rw [e_r8]) ?_
          refine q_sub (lv2 := [(2, .int m2), (0, .ref (gA G g 2)), (1, .int th)]) [0, 1, 2] rfl ?_
          exact hJ11 r8 (by subst e_r8; exact ((if_neg c4).trans ((if_pos c6).trans ((if_pos c7).trans rfl))).symm)
    · skip
      refine q_iload_n X 0 dX0_lookForCrack_23 rfl ?_
      refine q_if_eq (tgt := 38) X dX0_lookForCrack_24 (by decide) (fun c9 => ?_) (fun c9 => ?_)
      · skip
        refine q_aload_n X 1 dX0_lookForCrack_38 rfl ?_
        refine q_geti (fk := 6) (x := ρ 23) X cf_X0 (ac_2_2 hT_g) (by decide) fl_X0_32 rfl rfl dX0_lookForCrack_39 (hr_g) rfl ?_
        refine q_ldc X kc_X0_31 dX0_lookForCrack_42 ?_
        refine q_icmp_eq (tgt := 68) X dX0_lookForCrack_44 (by decide) (fun _ => ?_) (fun q => absurd c4 q)
        refine q_sub (lv2 := [(2, .int m2), (0, .ref (gA G g 2)), (1, .int th)]) [0, 1, 2] rfl ?_
        refine q_eq (h2 := va_up h g ρ) (va_up_id2 (hr_g)).symm rfl ?_
        exact hJ11 ρ (by exact ((if_pos c4).trans ((if_pos c9).trans rfl)).symm)
      · skip
        refine q_aload_n X 1 dX0_lookForCrack_27 rfl ?_
        refine q_aload_n X 1 dX0_lookForCrack_28 rfl ?_
        refine q_geti (fk := 2) (x := ρ 18) X cf_X0 (ac_2_2 hT_g) (by decide) fl_X0_18 rfl rfl dX0_lookForCrack_29 (hr_g) rfl ?_
        obtain ⟨r10, e_r10⟩ : ∃ z : Nat → Int32, z = va_up ρ 23 (ρ 18) := ⟨_, rfl⟩
        refine q_put (fk := 6) (h2 := va_up h g r10) X cf_X0 (ac_2_2 hT_g) (by decide) fl_X0_32 rfl rfl (by rw [hT_g]; rfl) rfl rfl rfl dX0_lookForCrack_32 (hr_g) (by rw [e_r10]) ?_
        refine q_goto (tgt := 68) X dX0_lookForCrack_35 (by decide) ?_
        refine q_sub (lv2 := [(2, .int m2), (0, .ref (gA G g 2)), (1, .int th)]) [0, 1, 2] rfl ?_
        exact hJ11 r10 (by subst e_r10; exact ((if_pos c4).trans ((if_neg c9).trans rfl)).symm)
  intro m5 e_m5
  have E : Z = m5 := by subst e_m5; subst e_m2; exact hZ.symm.trans (rfl)
  exact q_vret X hret dX0_lookForCrack_68 rfl (by rw [E])
def S_X0_number (ρ : Nat → Int32) (wh : Int32) : Int32 := if wh = 0 then (ρ 16) else (if wh = 1 then (ρ 17) else (if wh = 2 then (ρ 18) else (if wh = 3 then (ρ 19) else (if wh = 4 then (ρ 20) else (if wh = 5 then (S_at ρ 26 1 6 (S_J9_floorMod_7cf53 (ρ 18) 6)) else (if wh = 6 then (S_X0_window ρ) else (if wh = 7 then (ρ 23) else (if wh = 8 then (ρ 24) else (if wh = 9 then (ρ 25) else ((-100001)))))))))))
set_option maxRecDepth 100000 in
set_option maxHeartbeats 4000000 in
theorem c_X0_number {G : Geo} {l : Launch} (hG : GOK G) {g : Nat} {h : Hp} {ρ : Nat → Int32} (wh : Int32) (hT_g : gT G g = 2) (hr_g : h g = ρ) : CM G l yX0_number cX0_number 2 (some .int) 2 43 [.ref (gA G g 2), .int wh] h h (some (.int (S_X0_number ρ wh))) := by
  obtain ⟨Z, hZ⟩ : ∃ Z, S_X0_number ρ wh = Z := ⟨_, rfl⟩
  rw [hZ]
  refine q_enter hG mf_X0_number (Nat.le_of_ble_eq_true rfl) ?_
  intro p e s m below meth c X hret
  refine q_lv (lv2 := [(0, .ref (gA G g 2)), (1, .int wh)]) rfl ?_
  refine q_iload_n X 1 dX0_number_0 rfl ?_
  rcases Decidable.em (wh = 0) with c1 | c1
  · skip
    refine q_tabIn (off := 55) (tgt := 56) X dX0_number_1 (by rw [c1]; decide) (by rw [c1]; decide) (by rw [c1]; rfl) (by decide) ?_
    refine q_aload_n X 0 dX0_number_56 rfl ?_
    refine q_geti (fk := 0) (x := ρ 16) X cf_X0 (ac_2_2 hT_g) (by decide) fl_X0_9 rfl rfl dX0_number_57 (hr_g) rfl ?_
    have E : Z = ρ 16 := by exact hZ.symm.trans ((if_pos c1).trans rfl)
    exact q_iret X hret dX0_number_60 (by rw [E]) rfl
  rcases Decidable.em (wh = 1) with c2 | c2
  · skip
    refine q_tabIn (off := 60) (tgt := 61) X dX0_number_1 (by rw [c2]; decide) (by rw [c2]; decide) (by rw [c2]; rfl) (by decide) ?_
    refine q_aload_n X 0 dX0_number_61 rfl ?_
    refine q_geti (fk := 1) (x := ρ 17) X cf_X0 (ac_2_2 hT_g) (by decide) fl_X0_15 rfl rfl dX0_number_62 (hr_g) rfl ?_
    have E : Z = ρ 17 := by exact hZ.symm.trans ((if_neg c1).trans ((if_pos c2).trans rfl))
    exact q_iret X hret dX0_number_65 (by rw [E]) rfl
  rcases Decidable.em (wh = 2) with c3 | c3
  · skip
    refine q_tabIn (off := 65) (tgt := 66) X dX0_number_1 (by rw [c3]; decide) (by rw [c3]; decide) (by rw [c3]; rfl) (by decide) ?_
    refine q_aload_n X 0 dX0_number_66 rfl ?_
    refine q_geti (fk := 2) (x := ρ 18) X cf_X0 (ac_2_2 hT_g) (by decide) fl_X0_18 rfl rfl dX0_number_67 (hr_g) rfl ?_
    have E : Z = ρ 18 := by exact hZ.symm.trans ((if_neg c1).trans ((if_neg c2).trans ((if_pos c3).trans rfl)))
    exact q_iret X hret dX0_number_70 (by rw [E]) rfl
  rcases Decidable.em (wh = 3) with c4 | c4
  · skip
    refine q_tabIn (off := 70) (tgt := 71) X dX0_number_1 (by rw [c4]; decide) (by rw [c4]; decide) (by rw [c4]; rfl) (by decide) ?_
    refine q_aload_n X 0 dX0_number_71 rfl ?_
    refine q_geti (fk := 3) (x := ρ 19) X cf_X0 (ac_2_2 hT_g) (by decide) fl_X0_21 rfl rfl dX0_number_72 (hr_g) rfl ?_
    have E : Z = ρ 19 := by exact hZ.symm.trans ((if_neg c1).trans ((if_neg c2).trans ((if_neg c3).trans ((if_pos c4).trans rfl))))
    exact q_iret X hret dX0_number_75 (by rw [E]) rfl
  rcases Decidable.em (wh = 4) with c5 | c5
  · skip
    refine q_tabIn (off := 75) (tgt := 76) X dX0_number_1 (by rw [c5]; decide) (by rw [c5]; decide) (by rw [c5]; rfl) (by decide) ?_
    refine q_aload_n X 0 dX0_number_76 rfl ?_
    refine q_geti (fk := 4) (x := ρ 20) X cf_X0 (ac_2_2 hT_g) (by decide) fl_X0_24 rfl rfl dX0_number_77 (hr_g) rfl ?_
    have E : Z = ρ 20 := by exact hZ.symm.trans ((if_neg c1).trans ((if_neg c2).trans ((if_neg c3).trans ((if_neg c4).trans ((if_pos c5).trans rfl)))))
    exact q_iret X hret dX0_number_80 (by rw [E]) rfl
  rcases Decidable.em (wh = 5) with c6 | c6
  · skip
    refine q_tabIn (off := 80) (tgt := 81) X dX0_number_1 (by rw [c6]; decide) (by rw [c6]; decide) (by rw [c6]; rfl) (by decide) ?_
    refine q_aload_n X 0 dX0_number_81 rfl ?_
    refine q_get (fk := 5) (v := .ref (gA G g 3)) X cf_X0 (ac_2_2 hT_g) (by decide) fl_X0_27 rfl rfl dX0_number_82 rfl ?_
    refine q_aload_n X 0 dX0_number_85 rfl ?_
    refine q_geti (fk := 2) (x := ρ 18) X cf_X0 (ac_2_2 hT_g) (by decide) fl_X0_18 rfl rfl dX0_number_86 (hr_g) rfl ?_
    refine q_bipush (v := 6) X dX0_number_89 (by decide) ?_
    refine q_callS (h1 := _) (rest := [.ref (gA G g 3)]) (As := [.int (ρ 18), .int 6]) X (c_J9_floorMod_7cf53 (l := l) hG   (ρ 18) 6 (by decide)) mf_J9_floorMod_7cf53 ms_J9_floorMod_7cf53 lk_X0_61 rfl ⟨by decide, by decide⟩ ⟨Nat.le_refl _, Nat.le_refl _⟩ rfl (Nat.le_of_ble_eq_true rfl) dX0_number_91 (st2 := [.int (S_J9_floorMod_7cf53 (ρ 18) 6), .ref (gA G g 3)]) rfl ?_
    refine q_callSN (h1 := _) (rest := []) (As := [.ref (gA G g 3), .int (S_J9_floorMod_7cf53 (ρ 18) 6)]) X (c_X9_at (l := l) hG (n := 6) (row := ρ) (S_J9_floorMod_7cf53 (ρ 18) 6) (ac_2_3 hT_g) (hr_g) (by rw [hT_g]; rfl)) mf_X9_at ms_X9_at ln_X0_68 rfl ⟨by decide, by decide⟩ ⟨Nat.le_refl _, Nat.le_refl _⟩ rfl (Nat.le_of_ble_eq_true rfl) dX0_number_94 (st2 := [.int (S_at ρ 26 1 6 (S_J9_floorMod_7cf53 (ρ 18) 6))]) rfl ?_
    have E : Z = S_at ρ 26 1 6 (S_J9_floorMod_7cf53 (ρ 18) 6) := by exact hZ.symm.trans ((if_neg c1).trans ((if_neg c2).trans ((if_neg c3).trans ((if_neg c4).trans ((if_neg c5).trans ((if_pos c6).trans rfl))))))
    exact q_iret X hret dX0_number_97 (by rw [E]) rfl
  rcases Decidable.em (wh = 6) with c7 | c7
  · skip
    refine q_tabIn (off := 97) (tgt := 98) X dX0_number_1 (by rw [c7]; decide) (by rw [c7]; decide) (by rw [c7]; rfl) (by decide) ?_
    refine q_aload_n X 0 dX0_number_98 rfl ?_
    refine q_callV (h1 := _) (rest := []) (As := []) X (c_X0_window (l := l) hG (ρ := ρ)   hT_g (hr_g)) mf_X0_window mv_X0_window cf_X0 rfl (ac_2_2 hT_g) lk_X0_64 rfl ⟨by decide, by decide⟩ ⟨Nat.le_refl _, Nat.le_refl _⟩ rfl (Nat.le_of_ble_eq_true rfl) dX0_number_99 (st2 := [.int (S_X0_window ρ)]) rfl ?_
    have E : Z = S_X0_window ρ := by exact hZ.symm.trans ((if_neg c1).trans ((if_neg c2).trans ((if_neg c3).trans ((if_neg c4).trans ((if_neg c5).trans ((if_neg c6).trans ((if_pos c7).trans rfl)))))))
    exact q_iret X hret dX0_number_102 (by rw [E]) rfl
  rcases Decidable.em (wh = 7) with c8 | c8
  · skip
    refine q_tabIn (off := 102) (tgt := 103) X dX0_number_1 (by rw [c8]; decide) (by rw [c8]; decide) (by rw [c8]; rfl) (by decide) ?_
    refine q_aload_n X 0 dX0_number_103 rfl ?_
    refine q_geti (fk := 6) (x := ρ 23) X cf_X0 (ac_2_2 hT_g) (by decide) fl_X0_32 rfl rfl dX0_number_104 (hr_g) rfl ?_
    have E : Z = ρ 23 := by exact hZ.symm.trans ((if_neg c1).trans ((if_neg c2).trans ((if_neg c3).trans ((if_neg c4).trans ((if_neg c5).trans ((if_neg c6).trans ((if_neg c7).trans ((if_pos c8).trans rfl))))))))
    exact q_iret X hret dX0_number_107 (by rw [E]) rfl
  rcases Decidable.em (wh = 8) with c9 | c9
  · skip
    refine q_tabIn (off := 107) (tgt := 108) X dX0_number_1 (by rw [c9]; decide) (by rw [c9]; decide) (by rw [c9]; rfl) (by decide) ?_
    refine q_aload_n X 0 dX0_number_108 rfl ?_
    refine q_geti (fk := 7) (x := ρ 24) X cf_X0 (ac_2_2 hT_g) (by decide) fl_X0_35 rfl rfl dX0_number_109 (hr_g) rfl ?_
    have E : Z = ρ 24 := by exact hZ.symm.trans ((if_neg c1).trans ((if_neg c2).trans ((if_neg c3).trans ((if_neg c4).trans ((if_neg c5).trans ((if_neg c6).trans ((if_neg c7).trans ((if_neg c8).trans ((if_pos c9).trans rfl)))))))))
    exact q_iret X hret dX0_number_112 (by rw [E]) rfl
  rcases Decidable.em (wh = 9) with c10 | c10
  · skip
    refine q_tabIn (off := 112) (tgt := 113) X dX0_number_1 (by rw [c10]; decide) (by rw [c10]; decide) (by rw [c10]; rfl) (by decide) ?_
    refine q_aload_n X 0 dX0_number_113 rfl ?_
    refine q_geti (fk := 8) (x := ρ 25) X cf_X0 (ac_2_2 hT_g) (by decide) fl_X0_38 rfl rfl dX0_number_114 (hr_g) rfl ?_
    have E : Z = ρ 25 := by exact hZ.symm.trans ((if_neg c1).trans ((if_neg c2).trans ((if_neg c3).trans ((if_neg c4).trans ((if_neg c5).trans ((if_neg c6).trans ((if_neg c7).trans ((if_neg c8).trans ((if_neg c9).trans ((if_pos c10).trans rfl))))))))))
    exact q_iret X hret dX0_number_117 (by rw [E]) rfl
  refine q_tabOut (tgt := 118) X dX0_number_1 (by have zc1 := lv_neT c1 (a := 0) (by decide); have zc2 := lv_neT c2 (a := 1) (by decide); have zc3 := lv_neT c3 (a := 2) (by decide); have zc4 := lv_neT c4 (a := 3) (by decide); have zc5 := lv_neT c5 (a := 4) (by decide); have zc6 := lv_neT c6 (a := 5) (by decide); have zc7 := lv_neT c7 (a := 6) (by decide); have zc8 := lv_neT c8 (a := 7) (by decide); have zc9 := lv_neT c9 (a := 8) (by decide); have zc10 := lv_neT c10 (a := 9) (by decide); omega) (by decide) ?_
  refine q_ldc X kc_X0_72 dX0_number_118 ?_
  have E : Z = (-100001) := by exact hZ.symm.trans ((if_neg c1).trans ((if_neg c2).trans ((if_neg c3).trans ((if_neg c4).trans ((if_neg c5).trans ((if_neg c6).trans ((if_neg c7).trans ((if_neg c8).trans ((if_neg c9).trans ((if_neg c10).trans rfl))))))))))
  exact q_iret X hret dX0_number_120 (by rw [E]) rfl
def S_X4_copyFrom (ρ : Nat → Int32) (ρ2 : Nat → Int32) : (Nat → Int32) := let r1 : Nat → Int32 := S_X5_copyFrom ρ ρ2; let r2 : Nat → Int32 := S_X0_copyFrom r1 ρ2; let r3 : Nat → Int32 := va_up r2 0 (ρ2 0); let r4 : Nat → Int32 := va_up r3 1 (ρ2 1); let r5 : Nat → Int32 := va_up r4 2 (ρ2 2); let r6 : Nat → Int32 := va_up r5 4 (ρ2 4); let r7 : Nat → Int32 := va_up r6 7 (ρ2 7); let r8 : Nat → Int32 := va_up r7 13 (ρ2 13); r8
set_option maxRecDepth 100000 in
set_option maxHeartbeats 4000000 in
theorem c_X4_copyFrom {G : Geo} {l : Launch} (hG : GOK G) {g g2 : Nat} {h : Hp} {ρ : Nat → Int32} {ρ2 : Nat → Int32} (hT_g : gT G g = 2) (hT_g2 : gT G g2 = 2) (hr_g : h g = ρ) (hr_g2 : h g2 = ρ2) (hne : g2 ≠ g) : CM G l yX4_copyFrom cX4_copyFrom 2 none 3 102 [.ref (gA G g 0), .ref (gA G g2 0)] h (va_up h g (S_X4_copyFrom ρ ρ2)) none := by
  obtain ⟨Z, hZ⟩ : ∃ Z, S_X4_copyFrom ρ ρ2 = Z := ⟨_, rfl⟩
  rw [hZ]
  refine q_enter hG mf_X4_copyFrom (Nat.le_of_ble_eq_true rfl) ?_
  intro p e s m below meth c X hret
  refine q_lv (lv2 := [(0, .ref (gA G g 0)), (1, .ref (gA G g2 0))]) rfl ?_
  refine q_aload_n X 0 dX4_copyFrom_0 rfl ?_
  refine q_get (fk := 0) (v := .ref (gA G g 1)) X cf_X4 (ac_2_0 hT_g) (by decide) fl_X4_12 rfl rfl dX4_copyFrom_1 rfl ?_
  refine q_aload_n X 1 dX4_copyFrom_4 rfl ?_
  refine q_get (fk := 0) (v := .ref (gA G g2 1)) X cf_X4 (ac_2_0 hT_g2) (by decide) fl_X4_12 rfl rfl dX4_copyFrom_5 rfl ?_
  obtain ⟨r1, e_r1⟩ : ∃ z : Nat → Int32, z = S_X5_copyFrom ρ ρ2 := ⟨_, rfl⟩
  refine q_callV (h1 := _) (rest := []) (As := [.ref (gA G g2 1)]) X (c_X5_copyFrom (l := l) hG (ρ := ρ) (ρ2 := ρ2)   hT_g hT_g2 (hr_g) (hr_g2) hne) mf_X5_copyFrom mv_X5_copyFrom cf_X5 rfl (ac_2_1 hT_g) lk_X4_44 rfl ⟨by decide, by decide⟩ ⟨Nat.le_refl _, Nat.le_refl _⟩ rfl (Nat.le_of_ble_eq_true rfl) dX4_copyFrom_8 (st2 := []) rfl ?_
  refine q_eq (h2 := va_up h g r1) (by rw [e_r1]) rfl ?_
  refine q_aload_n X 0 dX4_copyFrom_11 rfl ?_
  refine q_get (fk := 1) (v := .ref (gA G g 2)) X cf_X4 (ac_2_0 hT_g) (by decide) fl_X4_21 rfl rfl dX4_copyFrom_12 rfl ?_
  refine q_aload_n X 1 dX4_copyFrom_15 rfl ?_
  refine q_get (fk := 1) (v := .ref (gA G g2 2)) X cf_X4 (ac_2_0 hT_g2) (by decide) fl_X4_21 rfl rfl dX4_copyFrom_16 rfl ?_
  obtain ⟨r2, e_r2⟩ : ∃ z : Nat → Int32, z = S_X0_copyFrom r1 ρ2 := ⟨_, rfl⟩
  refine q_callV (h1 := _) (rest := []) (As := [.ref (gA G g2 2)]) X (c_X0_copyFrom (l := l) hG (ρ := r1) (ρ2 := ρ2)   hT_g hT_g2 (va_up_self _ _ _) ((va_up_ne _ _ hne).trans (hr_g2)) hne) mf_X0_copyFrom mv_X0_copyFrom cf_X0 rfl (ac_2_2 hT_g) lk_X4_48 rfl ⟨by decide, by decide⟩ ⟨Nat.le_refl _, Nat.le_refl _⟩ rfl (Nat.le_of_ble_eq_true rfl) dX4_copyFrom_19 (st2 := []) rfl ?_
  refine q_eq (h2 := va_up h g r2) (by rw [e_r2]; exact va_up_up _ _ _ _) rfl ?_
  refine q_aload_n X 0 dX4_copyFrom_22 rfl ?_
  refine q_aload_n X 1 dX4_copyFrom_23 rfl ?_
  refine q_geti (fk := 2) (x := ρ2 0) X cf_X4 (ac_2_0 hT_g2) (by decide) fl_X4_25 rfl rfl dX4_copyFrom_24 ((va_up_ne _ _ hne).trans (hr_g2)) rfl ?_
  obtain ⟨r3, e_r3⟩ : ∃ z : Nat → Int32, z = va_up r2 0 (ρ2 0) := ⟨_, rfl⟩
  refine q_put (fk := 2) (h2 := va_up h g r3) X cf_X4 (ac_2_0 hT_g) (by decide) fl_X4_25 rfl rfl (by rw [hT_g]; rfl) rfl rfl rfl dX4_copyFrom_27 (va_up_self _ _ _) (by rw [e_r3, va_up_up]) ?_
  refine q_aload_n X 0 dX4_copyFrom_30 rfl ?_
  refine q_aload_n X 1 dX4_copyFrom_31 rfl ?_
  refine q_geti (fk := 3) (x := ρ2 1) X cf_X4 (ac_2_0 hT_g2) (by decide) fl_X4_29 rfl rfl dX4_copyFrom_32 ((va_up_ne _ _ hne).trans (hr_g2)) rfl ?_
  obtain ⟨r4, e_r4⟩ : ∃ z : Nat → Int32, z = va_up r3 1 (ρ2 1) := ⟨_, rfl⟩
  refine q_put (fk := 3) (h2 := va_up h g r4) X cf_X4 (ac_2_0 hT_g) (by decide) fl_X4_29 rfl rfl (by rw [hT_g]; rfl) rfl rfl rfl dX4_copyFrom_35 (va_up_self _ _ _) (by rw [e_r4, va_up_up]) ?_
  refine q_aload_n X 0 dX4_copyFrom_38 rfl ?_
  refine q_aload_n X 1 dX4_copyFrom_39 rfl ?_
  refine q_geti (fk := 4) (x := ρ2 2) X cf_X4 (ac_2_0 hT_g2) (by decide) fl_X4_32 rfl rfl dX4_copyFrom_40 ((va_up_ne _ _ hne).trans (hr_g2)) rfl ?_
  obtain ⟨r5, e_r5⟩ : ∃ z : Nat → Int32, z = va_up r4 2 (ρ2 2) := ⟨_, rfl⟩
  refine q_put (fk := 4) (h2 := va_up h g r5) X cf_X4 (ac_2_0 hT_g) (by decide) fl_X4_32 rfl rfl (by rw [hT_g]; rfl) rfl rfl rfl dX4_copyFrom_43 (va_up_self _ _ _) (by rw [e_r5, va_up_up]) ?_
  refine q_aload_n X 0 dX4_copyFrom_46 rfl ?_
  refine q_aload_n X 1 dX4_copyFrom_47 rfl ?_
  refine q_geti (fk := 5) (x := ρ2 4) X cf_X4 (ac_2_0 hT_g2) (by decide) fl_X4_35 rfl rfl dX4_copyFrom_48 ((va_up_ne _ _ hne).trans (hr_g2)) rfl ?_
  obtain ⟨r6, e_r6⟩ : ∃ z : Nat → Int32, z = va_up r5 4 (ρ2 4) := ⟨_, rfl⟩
  refine q_put (fk := 5) (h2 := va_up h g r6) X cf_X4 (ac_2_0 hT_g) (by decide) fl_X4_35 rfl rfl (by rw [hT_g]; rfl) rfl rfl rfl dX4_copyFrom_51 (va_up_self _ _ _) (by rw [e_r6, va_up_up]) ?_
  refine q_aload_n X 0 dX4_copyFrom_54 rfl ?_
  refine q_aload_n X 1 dX4_copyFrom_55 rfl ?_
  refine q_geti (fk := 6) (x := ρ2 7) X cf_X4 (ac_2_0 hT_g2) (by decide) fl_X4_38 rfl rfl dX4_copyFrom_56 ((va_up_ne _ _ hne).trans (hr_g2)) rfl ?_
  obtain ⟨r7, e_r7⟩ : ∃ z : Nat → Int32, z = va_up r6 7 (ρ2 7) := ⟨_, rfl⟩
  refine q_put (fk := 6) (h2 := va_up h g r7) X cf_X4 (ac_2_0 hT_g) (by decide) fl_X4_38 rfl rfl (by rw [hT_g]; rfl) rfl rfl rfl dX4_copyFrom_59 (va_up_self _ _ _) (by rw [e_r7, va_up_up]) ?_
  refine q_aload_n X 0 dX4_copyFrom_62 rfl ?_
  refine q_aload_n X 1 dX4_copyFrom_63 rfl ?_
  refine q_geti (fk := 7) (x := ρ2 13) X cf_X4 (ac_2_0 hT_g2) (by decide) fl_X4_41 rfl rfl dX4_copyFrom_64 ((va_up_ne _ _ hne).trans (hr_g2)) rfl ?_
  obtain ⟨r8, e_r8⟩ : ∃ z : Nat → Int32, z = va_up r7 13 (ρ2 13) := ⟨_, rfl⟩
  refine q_put (fk := 7) (h2 := va_up h g r8) X cf_X4 (ac_2_0 hT_g) (by decide) fl_X4_41 rfl rfl (by rw [hT_g]; rfl) rfl rfl rfl dX4_copyFrom_67 (va_up_self _ _ _) (by rw [e_r8, va_up_up]) ?_
  have E : Z = r8 := by subst e_r8; subst e_r7; subst e_r6; subst e_r5; subst e_r4; subst e_r3; subst e_r2; subst e_r1; exact hZ.symm.trans (rfl)
  exact q_vret X hret dX4_copyFrom_70 rfl (by rw [E])
def S_X4_startBatch (ρ : Nat → Int32) (ma : Int32) : (Nat → Int32) := let r1 : Nat → Int32 := S_X0_start ρ ma (ρ 3); let r2 : Nat → Int32 := va_up r1 1 1; let r3 : Nat → Int32 := va_up r2 13 0; r3
set_option maxRecDepth 100000 in
set_option maxHeartbeats 4000000 in
theorem c_X4_startBatch {G : Geo} {l : Launch} (hG : GOK G) {g : Nat} {h : Hp} {ρ : Nat → Int32} (ma : Int32) (hT_g : gT G g = 2) (hr_g : h g = ρ) : CM G l yX4_startBatch cX4_startBatch 2 none 2 45 [.ref (gA G g 0), .int ma] h (va_up h g (S_X4_startBatch ρ ma)) none := by
  obtain ⟨Z, hZ⟩ : ∃ Z, S_X4_startBatch ρ ma = Z := ⟨_, rfl⟩
  rw [hZ]
  refine q_enter hG mf_X4_startBatch (Nat.le_of_ble_eq_true rfl) ?_
  intro p e s m below meth c X hret
  refine q_lv (lv2 := [(0, .ref (gA G g 0)), (1, .int ma)]) rfl ?_
  refine q_aload_n X 0 dX4_startBatch_0 rfl ?_
  refine q_get (fk := 1) (v := .ref (gA G g 2)) X cf_X4 (ac_2_0 hT_g) (by decide) fl_X4_21 rfl rfl dX4_startBatch_1 rfl ?_
  refine q_iload_n X 1 dX4_startBatch_4 rfl ?_
  refine q_aload_n X 0 dX4_startBatch_5 rfl ?_
  refine q_get (fk := 0) (v := .ref (gA G g 1)) X cf_X4 (ac_2_0 hT_g) (by decide) fl_X4_12 rfl rfl dX4_startBatch_6 rfl ?_
  refine q_geti (fk := 0) (x := ρ 3) X cf_X5 (ac_2_1 hT_g) (by decide) fl_X4_51 rfl rfl dX4_startBatch_9 (hr_g) rfl ?_
  obtain ⟨r1, e_r1⟩ : ∃ z : Nat → Int32, z = S_X0_start ρ ma (ρ 3) := ⟨_, rfl⟩
  refine q_callV (h1 := _) (rest := []) (As := [.int ma, .int (ρ 3)]) X (c_X0_start (l := l) hG (ρ := ρ)  ma (ρ 3) hT_g (hr_g)) mf_X0_start mv_X0_start cf_X0 rfl (ac_2_2 hT_g) lk_X4_54 rfl ⟨by decide, by decide⟩ ⟨Nat.le_refl _, Nat.le_refl _⟩ rfl (Nat.le_of_ble_eq_true rfl) dX4_startBatch_12 (st2 := []) rfl ?_
  refine q_eq (h2 := va_up h g r1) (by rw [e_r1]) rfl ?_
  refine q_aload_n X 0 dX4_startBatch_15 rfl ?_
  refine q_iconst (v := 1) X dX4_startBatch_16 (by decide) ?_
  obtain ⟨r2, e_r2⟩ : ∃ z : Nat → Int32, z = va_up r1 1 1 := ⟨_, rfl⟩
  refine q_put (fk := 3) (h2 := va_up h g r2) X cf_X4 (ac_2_0 hT_g) (by decide) fl_X4_29 rfl rfl (by rw [hT_g]; rfl) rfl rfl rfl dX4_startBatch_17 (va_up_self _ _ _) (by rw [e_r2, va_up_up]) ?_
  refine q_aload_n X 0 dX4_startBatch_20 rfl ?_
  refine q_iconst (v := 0) X dX4_startBatch_21 (by decide) ?_
  obtain ⟨r3, e_r3⟩ : ∃ z : Nat → Int32, z = va_up r2 13 0 := ⟨_, rfl⟩
  refine q_put (fk := 7) (h2 := va_up h g r3) X cf_X4 (ac_2_0 hT_g) (by decide) fl_X4_41 rfl rfl (by rw [hT_g]; rfl) rfl rfl rfl dX4_startBatch_22 (va_up_self _ _ _) (by rw [e_r3, va_up_up]) ?_
  have E : Z = r3 := by subst e_r3; subst e_r2; subst e_r1; exact hZ.symm.trans (rfl)
  exact q_vret X hret dX4_startBatch_25 rfl (by rw [E])
def S_X4_moveDrum (ρ : Nat → Int32) : (Nat → Int32) := let r1 : Nat → Int32 := va_up ρ 2 ((ρ 2) + (S_J9_floorDiv_7cf53 ((8 * (ρ 7)) - (S_J9_floorDiv_7cf53 ((ρ 2) - (ρ 3)) 5)) 10)); let m3 : Nat → Int32 := if (r1 1) = 1 then (let r4 : Nat → Int32 := va_up r1 2 ((r1 2) - (S_J9_floorDiv_7cf53 (((ρ 2) - (r1 16)) * (r1 17)) 20000)); r4) else (r1); m3
set_option maxRecDepth 100000 in
set_option maxHeartbeats 4000000 in
theorem c_X4_moveDrum {G : Geo} {l : Launch} (hG : GOK G) {g : Nat} {h : Hp} {ρ : Nat → Int32} (hT_g : gT G g = 2) (hr_g : h g = ρ) : CM G l yX4_moveDrum cX4_moveDrum 3 none 1 22 [.ref (gA G g 0)] h (va_up h g (S_X4_moveDrum ρ)) none := by
  obtain ⟨Z, hZ⟩ : ∃ Z, S_X4_moveDrum ρ = Z := ⟨_, rfl⟩
  rw [hZ]
  refine q_enter hG mf_X4_moveDrum (Nat.le_of_ble_eq_true rfl) ?_
  intro p e s m below meth c X hret
  refine q_lv (lv2 := [(0, .ref (gA G g 0))]) rfl ?_
  refine q_aload_n X 0 dX4_moveDrum_0 rfl ?_
  refine q_geti (fk := 4) (x := ρ 2) X cf_X4 (ac_2_0 hT_g) (by decide) fl_X4_32 rfl rfl dX4_moveDrum_1 (hr_g) rfl ?_
  refine q_istore_n (lv' := [(1, .int (ρ 2)), (0, .ref (gA G g 0))]) X dX4_moveDrum_4 (by decide) rfl ?_
  refine q_iload_n X 0 dX4_moveDrum_5 rfl ?_
  refine q_aload_n X 1 dX4_moveDrum_6 rfl ?_
  refine q_get (fk := 0) (v := .ref (gA G g 1)) X cf_X4 (ac_2_0 hT_g) (by decide) fl_X4_12 rfl rfl dX4_moveDrum_7 rfl ?_
  refine q_geti (fk := 0) (x := ρ 3) X cf_X5 (ac_2_1 hT_g) (by decide) fl_X4_51 rfl rfl dX4_moveDrum_10 (hr_g) rfl ?_
  refine q_isub X dX4_moveDrum_13 ?_
  refine q_iconst (v := 5) X dX4_moveDrum_14 (by decide) ?_
  refine q_callS (h1 := _) (rest := []) (As := [.int ((ρ 2) - (ρ 3)), .int 5]) X (c_J9_floorDiv_7cf53 (l := l) hG   ((ρ 2) - (ρ 3)) 5 (by decide)) mf_J9_floorDiv_7cf53 ms_J9_floorDiv_7cf53 lk_X4_124 rfl ⟨by decide, by decide⟩ ⟨Nat.le_refl _, Nat.le_refl _⟩ rfl (Nat.le_of_ble_eq_true rfl) dX4_moveDrum_15 (st2 := [.int (S_J9_floorDiv_7cf53 ((ρ 2) - (ρ 3)) 5)]) rfl ?_
  refine q_istore_n (lv' := [(2, .int (S_J9_floorDiv_7cf53 ((ρ 2) - (ρ 3)) 5)), (1, .int (ρ 2)), (0, .ref (gA G g 0))]) X dX4_moveDrum_18 (by decide) rfl ?_
  refine q_aload_n X 2 dX4_moveDrum_19 rfl ?_
  refine q_iload_n X 1 dX4_moveDrum_20 rfl ?_
  refine q_bipush (v := 8) X dX4_moveDrum_21 (by decide) ?_
  refine q_aload_n X 2 dX4_moveDrum_23 rfl ?_
  refine q_geti (fk := 6) (x := ρ 7) X cf_X4 (ac_2_0 hT_g) (by decide) fl_X4_38 rfl rfl dX4_moveDrum_24 (hr_g) rfl ?_
  refine q_imul X dX4_moveDrum_27 ?_
  refine q_iload_n X 0 dX4_moveDrum_28 rfl ?_
  refine q_isub X dX4_moveDrum_29 ?_
  refine q_bipush (v := 10) X dX4_moveDrum_30 (by decide) ?_
  refine q_callS (h1 := _) (rest := [.int (ρ 2), .ref (gA G g 0)]) (As := [.int ((8 * (ρ 7)) - (S_J9_floorDiv_7cf53 ((ρ 2) - (ρ 3)) 5)), .int 10]) X (c_J9_floorDiv_7cf53 (l := l) hG   ((8 * (ρ 7)) - (S_J9_floorDiv_7cf53 ((ρ 2) - (ρ 3)) 5)) 10 (by decide)) mf_J9_floorDiv_7cf53 ms_J9_floorDiv_7cf53 lk_X4_124 rfl ⟨by decide, by decide⟩ ⟨Nat.le_refl _, Nat.le_refl _⟩ rfl (Nat.le_of_ble_eq_true rfl) dX4_moveDrum_32 (st2 := [.int (S_J9_floorDiv_7cf53 ((8 * (ρ 7)) - (S_J9_floorDiv_7cf53 ((ρ 2) - (ρ 3)) 5)) 10), .int (ρ 2), .ref (gA G g 0)]) rfl ?_
  refine q_iadd X dX4_moveDrum_35 ?_
  obtain ⟨r1, e_r1⟩ : ∃ z : Nat → Int32, z = va_up ρ 2 ((ρ 2) + (S_J9_floorDiv_7cf53 ((8 * (ρ 7)) - (S_J9_floorDiv_7cf53 ((ρ 2) - (ρ 3)) 5)) 10)) := ⟨_, rfl⟩
  refine q_put (fk := 4) (h2 := va_up h g r1) X cf_X4 (ac_2_0 hT_g) (by decide) fl_X4_32 rfl rfl (by rw [hT_g]; rfl) rfl rfl rfl dX4_moveDrum_36 (hr_g) (by rw [e_r1]) ?_
  refine q_aload_n X 2 dX4_moveDrum_39 rfl ?_
  refine q_geti (fk := 3) (x := r1 1) X cf_X4 (ac_2_0 hT_g) (by decide) fl_X4_29 rfl rfl dX4_moveDrum_40 (va_up_self _ _ _) rfl ?_
  refine q_iconst (v := 1) X dX4_moveDrum_43 (by decide) ?_
  suffices hJ5 : ∀ (m3 : Nat → Int32), m3 = (if (r1 1) = 1 then (let r4 : Nat → Int32 := va_up r1 2 ((r1 2) - (S_J9_floorDiv_7cf53 (((ρ 2) - (r1 16)) * (r1 17)) 20000)); r4) else (r1)) → VV G (AA G) p l e { frames := 1, cells := 0, slots := 0, locals := 22 } s m ([.ref (gA G g 0)] : List Value).toArray below meth c 0 0 (MQ below (QC G (va_up h g Z) none) ([.ref (gA G g 0)] : List Value).toArray s 0 0 (AA G)) 3 (va_up h g m3) 79 [(2, .int (S_J9_floorDiv_7cf53 ((ρ 2) - (ρ 3)) 5)), (1, .int (ρ 2)), (0, .ref (gA G g 0))] [] by
    refine q_icmp_ne (tgt := 79) X dX4_moveDrum_44 (by decide) (fun c2 => ?_) (fun c2 => ?_)
    · skip
      refine q_sub (lv2 := [(2, .int (S_J9_floorDiv_7cf53 ((ρ 2) - (ρ 3)) 5)), (1, .int (ρ 2)), (0, .ref (gA G g 0))]) [0, 1, 2] rfl ?_
      exact hJ5 r1 (by exact ((if_neg c2).trans rfl).symm)
    · skip
      refine q_aload_n X 2 dX4_moveDrum_47 rfl ?_
      refine q_dup X dX4_moveDrum_48 rfl ?_
      refine q_geti (fk := 4) (x := r1 2) X cf_X4 (ac_2_0 hT_g) (by decide) fl_X4_32 rfl rfl dX4_moveDrum_49 (va_up_self _ _ _) rfl ?_
      refine q_iload_n X 1 dX4_moveDrum_52 rfl ?_
      refine q_aload_n X 2 dX4_moveDrum_53 rfl ?_
      refine q_get (fk := 1) (v := .ref (gA G g 2)) X cf_X4 (ac_2_0 hT_g) (by decide) fl_X4_21 rfl rfl dX4_moveDrum_54 rfl ?_
      refine q_geti (fk := 0) (x := r1 16) X cf_X0 (ac_2_2 hT_g) (by decide) fl_X4_81 rfl rfl dX4_moveDrum_57 (va_up_self _ _ _) rfl ?_
      refine q_isub X dX4_moveDrum_60 ?_
      refine q_aload_n X 2 dX4_moveDrum_61 rfl ?_
      refine q_get (fk := 1) (v := .ref (gA G g 2)) X cf_X4 (ac_2_0 hT_g) (by decide) fl_X4_21 rfl rfl dX4_moveDrum_62 rfl ?_
      refine q_geti (fk := 1) (x := r1 17) X cf_X0 (ac_2_2 hT_g) (by decide) fl_X4_133 rfl rfl dX4_moveDrum_65 (va_up_self _ _ _) rfl ?_
      refine q_imul X dX4_moveDrum_68 ?_
      refine q_sipush (v := 20000) X dX4_moveDrum_69 (by decide) ?_
      refine q_callS (h1 := _) (rest := [.int (r1 2), .ref (gA G g 0)]) (As := [.int (((ρ 2) - (r1 16)) * (r1 17)), .int 20000]) X (c_J9_floorDiv_7cf53 (l := l) hG   (((ρ 2) - (r1 16)) * (r1 17)) 20000 (by decide)) mf_J9_floorDiv_7cf53 ms_J9_floorDiv_7cf53 lk_X4_124 rfl ⟨by decide, by decide⟩ ⟨Nat.le_refl _, Nat.le_refl _⟩ rfl (Nat.le_of_ble_eq_true rfl) dX4_moveDrum_72 (st2 := [.int (S_J9_floorDiv_7cf53 (((ρ 2) - (r1 16)) * (r1 17)) 20000), .int (r1 2), .ref (gA G g 0)]) rfl ?_
      refine q_isub X dX4_moveDrum_75 ?_
      obtain ⟨r4, e_r4⟩ : ∃ z : Nat → Int32, z = va_up r1 2 ((r1 2) - (S_J9_floorDiv_7cf53 (((ρ 2) - (r1 16)) * (r1 17)) 20000)) := ⟨_, rfl⟩
      refine q_put (fk := 4) (h2 := va_up h g r4) X cf_X4 (ac_2_0 hT_g) (by decide) fl_X4_32 rfl rfl (by rw [hT_g]; rfl) rfl rfl rfl dX4_moveDrum_76 (va_up_self _ _ _) (by rw [e_r4, va_up_up]) ?_
      refine q_sub (lv2 := [(2, .int (S_J9_floorDiv_7cf53 ((ρ 2) - (ρ 3)) 5)), (1, .int (ρ 2)), (0, .ref (gA G g 0))]) [0, 1, 2] rfl ?_
      exact hJ5 r4 (by subst e_r4; exact ((if_pos c2).trans rfl).symm)
  intro m3 e_m3
  have E : Z = m3 := by subst e_m3; subst e_r1; exact hZ.symm.trans (rfl)
  exact q_vret X hret dX4_moveDrum_79 rfl (by rw [E])
def S_X4_moveProbe (ρ : Nat → Int32) : (Nat → Int32) := let m2 : Int32 := if (ρ 1) = 1 then (ρ 16) else (ρ 2); let r4 : Nat → Int32 := va_up ρ 4 ((ρ 4) + (Int64.toInt32 (S_X9_quotient (Int32.toInt64 (m2 - (ρ 4))) (Int32.toInt64 (ρ 5))))); r4
set_option maxRecDepth 100000 in
set_option maxHeartbeats 4000000 in
theorem c_X4_moveProbe {G : Geo} {l : Launch} (hG : GOK G) {g : Nat} {h : Hp} {ρ : Nat → Int32} (hT_g : gT G g = 2) (hr_g : h g = ρ) : CM G l yX4_moveProbe cX4_moveProbe 2 none 2 48 [.ref (gA G g 0)] h (va_up h g (S_X4_moveProbe ρ)) none := by
  obtain ⟨Z, hZ⟩ : ∃ Z, S_X4_moveProbe ρ = Z := ⟨_, rfl⟩
  rw [hZ]
  refine q_enter hG mf_X4_moveProbe (Nat.le_of_ble_eq_true rfl) ?_
  intro p e s m below meth c X hret
  refine q_lv (lv2 := [(0, .ref (gA G g 0))]) rfl ?_
  refine q_aload_n X 0 dX4_moveProbe_0 rfl ?_
  refine q_geti (fk := 3) (x := ρ 1) X cf_X4 (ac_2_0 hT_g) (by decide) fl_X4_29 rfl rfl dX4_moveProbe_1 (hr_g) rfl ?_
  refine q_iconst (v := 1) X dX4_moveProbe_4 (by decide) ?_
  suffices hJ3 : ∀ (m2 : Int32), m2 = (if (ρ 1) = 1 then (ρ 16) else (ρ 2)) → VV G (AA G) p l e { frames := 2, cells := 0, slots := 0, locals := 48 } s m ([.ref (gA G g 0)] : List Value).toArray below meth c 0 0 (MQ below (QC G (va_up h g Z) none) ([.ref (gA G g 0)] : List Value).toArray s 0 0 (AA G)) 2 h 22 [(0, .ref (gA G g 0))] [.int m2] by
    refine q_icmp_ne (tgt := 18) X dX4_moveProbe_5 (by decide) (fun c1 => ?_) (fun c1 => ?_)
    · skip
      refine q_aload_n X 0 dX4_moveProbe_18 rfl ?_
      refine q_geti (fk := 4) (x := ρ 2) X cf_X4 (ac_2_0 hT_g) (by decide) fl_X4_32 rfl rfl dX4_moveProbe_19 (hr_g) rfl ?_
      refine q_sub (lv2 := [(0, .ref (gA G g 0))]) [0] rfl ?_
      exact hJ3 (ρ 2) (by exact ((if_neg c1).trans rfl).symm)
    · skip
      refine q_aload_n X 0 dX4_moveProbe_8 rfl ?_
      refine q_get (fk := 1) (v := .ref (gA G g 2)) X cf_X4 (ac_2_0 hT_g) (by decide) fl_X4_21 rfl rfl dX4_moveProbe_9 rfl ?_
      refine q_geti (fk := 0) (x := ρ 16) X cf_X0 (ac_2_2 hT_g) (by decide) fl_X4_81 rfl rfl dX4_moveProbe_12 (hr_g) rfl ?_
      refine q_goto (tgt := 22) X dX4_moveProbe_15 (by decide) ?_
      refine q_sub (lv2 := [(0, .ref (gA G g 0))]) [0] rfl ?_
      exact hJ3 (ρ 16) (by exact ((if_pos c1).trans rfl).symm)
  intro m2 e_m2
  refine q_istore_n (lv' := [(1, .int m2), (0, .ref (gA G g 0))]) X dX4_moveProbe_22 (by decide) rfl ?_
  refine q_aload_n X 1 dX4_moveProbe_23 rfl ?_
  refine q_dup X dX4_moveProbe_24 rfl ?_
  refine q_geti (fk := 5) (x := ρ 4) X cf_X4 (ac_2_0 hT_g) (by decide) fl_X4_35 rfl rfl dX4_moveProbe_25 (hr_g) rfl ?_
  refine q_iload_n X 0 dX4_moveProbe_28 rfl ?_
  refine q_aload_n X 1 dX4_moveProbe_29 rfl ?_
  refine q_geti (fk := 5) (x := ρ 4) X cf_X4 (ac_2_0 hT_g) (by decide) fl_X4_35 rfl rfl dX4_moveProbe_30 (hr_g) rfl ?_
  refine q_isub X dX4_moveProbe_33 ?_
  refine q_i2l X dX4_moveProbe_34 ?_
  refine q_aload_n X 1 dX4_moveProbe_35 rfl ?_
  refine q_get (fk := 0) (v := .ref (gA G g 1)) X cf_X4 (ac_2_0 hT_g) (by decide) fl_X4_12 rfl rfl dX4_moveProbe_36 rfl ?_
  refine q_geti (fk := 5) (x := ρ 5) X cf_X5 (ac_2_1 hT_g) (by decide) fl_X4_136 rfl rfl dX4_moveProbe_39 (hr_g) rfl ?_
  refine q_i2l X dX4_moveProbe_42 ?_
  refine q_callSN (h1 := _) (rest := [.int (ρ 4), .ref (gA G g 0)]) (As := [.long (Int32.toInt64 (m2 - (ρ 4))), .long (Int32.toInt64 (ρ 5))]) X (c_X9_quotient (l := l) hG   (Int32.toInt64 (m2 - (ρ 4))) (Int32.toInt64 (ρ 5)) ) mf_X9_quotient ms_X9_quotient ln_X4_139 rfl ⟨by decide, by decide⟩ ⟨Nat.le_refl _, Nat.le_refl _⟩ rfl (Nat.le_of_ble_eq_true rfl) dX4_moveProbe_43 (st2 := [.long (S_X9_quotient (Int32.toInt64 (m2 - (ρ 4))) (Int32.toInt64 (ρ 5))), .int (ρ 4), .ref (gA G g 0)]) rfl ?_
  refine q_l2i X dX4_moveProbe_46 ?_
  refine q_iadd X dX4_moveProbe_47 ?_
  obtain ⟨r4, e_r4⟩ : ∃ z : Nat → Int32, z = va_up ρ 4 ((ρ 4) + (Int64.toInt32 (S_X9_quotient (Int32.toInt64 (m2 - (ρ 4))) (Int32.toInt64 (ρ 5))))) := ⟨_, rfl⟩
  refine q_put (fk := 5) (h2 := va_up h g r4) X cf_X4 (ac_2_0 hT_g) (by decide) fl_X4_35 rfl rfl (by rw [hT_g]; rfl) rfl rfl rfl dX4_moveProbe_48 (hr_g) (by rw [e_r4]) ?_
  have E : Z = r4 := by subst e_r4; subst e_m2; exact hZ.symm.trans (rfl)
  exact q_vret X hret dX4_moveProbe_51 rfl (by rw [E])
def S_X4_steer (ρ : Nat → Int32) (π : Nat → Int32) : (Nat → Int32) := if (ρ 9) = 1 then (if (π 0) = 0 then (ρ) else (let r3 : Nat → Int32 := va_up ρ 13 (S_X9_clamp ((ρ 13) + ((S_X6_valueOnLine π 8 (ρ 18)) - (ρ 4))) (-20000) 20000); let r4 : Nat → Int32 := va_up r3 7 (S_X9_clamp (((r3 12) + (S_J9_floorDiv_7cf53 ((r3 10) * ((S_X6_valueOnLine π 8 (ρ 18)) - (ρ 4))) 100)) + (S_J9_floorDiv_7cf53 ((r3 11) * (r3 13)) 1000)) 0 100); r4)) else (ρ)
set_option maxRecDepth 100000 in
set_option maxHeartbeats 4000000 in
theorem c_X4_steer {G : Geo} {l : Launch} (hG : GOK G) {g : Nat} {h : Hp} {ρ : Nat → Int32} {π : Nat → Int32} (hK : KT G) (hT_g : gT G g = 2) (hr_g : h g = ρ) (hr_3 : h 3 = π) : CM G l yX4_steer cX4_steer 4 none 3 73 [.ref (gA G g 0), .ref (gA G 3 0)] h (va_up h g (S_X4_steer ρ π)) none := by
  obtain ⟨Z, hZ⟩ : ∃ Z, S_X4_steer ρ π = Z := ⟨_, rfl⟩
  rw [hZ]
  refine q_enter hG mf_X4_steer (Nat.le_of_ble_eq_true rfl) ?_
  intro p e s m below meth c X hret
  have hT_3 : gT G 3 = 3 := hK 3 (by decide)
  refine q_lv (lv2 := [(0, .ref (gA G g 0)), (1, .ref (gA G 3 0))]) rfl ?_
  refine q_aload_n X 0 dX4_steer_0 rfl ?_
  refine q_get (fk := 0) (v := .ref (gA G g 1)) X cf_X4 (ac_2_0 hT_g) (by decide) fl_X4_12 rfl rfl dX4_steer_1 rfl ?_
  refine q_geti (fk := 1) (x := ρ 9) X cf_X5 (ac_2_1 hT_g) (by decide) fl_X4_105 rfl rfl dX4_steer_4 (hr_g) rfl ?_
  refine q_iconst (v := 1) X dX4_steer_7 (by decide) ?_
  refine q_icmp_ne (tgt := 18) X dX4_steer_8 (by decide) (fun c1 => ?_) (fun c1 => ?_)
  · skip
    have E : Z = ρ := by exact hZ.symm.trans ((if_neg c1).trans rfl)
    exact q_vret X hret dX4_steer_18 rfl (by rw [E]; exact va_up_id2 (hr_g))
  · skip
    refine q_aload_n X 1 dX4_steer_11 rfl ?_
    refine q_geti (fk := 2) (x := π 0) X cf_X6 (ac_3_0 hT_3) (by decide) fl_X4_108 rfl rfl dX4_steer_12 (hr_3) rfl ?_
    refine q_if_ne (tgt := 19) X dX4_steer_15 (by decide) (fun c2 => ?_) (fun c2 => ?_)
    · skip
      refine q_aload_n X 1 dX4_steer_19 rfl ?_
      refine q_aload_n X 0 dX4_steer_20 rfl ?_
      refine q_get (fk := 1) (v := .ref (gA G g 2)) X cf_X4 (ac_2_0 hT_g) (by decide) fl_X4_21 rfl rfl dX4_steer_21 rfl ?_
      refine q_geti (fk := 2) (x := ρ 18) X cf_X0 (ac_2_2 hT_g) (by decide) fl_X4_58 rfl rfl dX4_steer_24 (hr_g) rfl ?_
      refine q_callV (h1 := _) (rest := []) (As := [.int (ρ 18)]) X (c_X6_valueOnLine (l := l) hG (ρ := π) (n := 8) (ρ 18) hT_3 (hr_3) (by rw [hT_3]; rfl)) mf_X6_valueOnLine mv_X6_valueOnLine cf_X6 rfl (ac_3_0 hT_3) lk_X4_111 rfl ⟨by decide, by decide⟩ ⟨Nat.le_refl _, Nat.le_refl _⟩ rfl (Nat.le_of_ble_eq_true rfl) dX4_steer_27 (st2 := [.int (S_X6_valueOnLine π 8 (ρ 18))]) rfl ?_
      refine q_aload_n X 0 dX4_steer_30 rfl ?_
      refine q_geti (fk := 5) (x := ρ 4) X cf_X4 (ac_2_0 hT_g) (by decide) fl_X4_35 rfl rfl dX4_steer_31 (hr_g) rfl ?_
      refine q_isub X dX4_steer_34 ?_
      refine q_istore_n (lv' := [(2, .int ((S_X6_valueOnLine π 8 (ρ 18)) - (ρ 4))), (0, .ref (gA G g 0)), (1, .ref (gA G 3 0))]) X dX4_steer_35 (by decide) rfl ?_
      refine q_aload_n X 1 dX4_steer_36 rfl ?_
      refine q_aload_n X 1 dX4_steer_37 rfl ?_
      refine q_geti (fk := 7) (x := ρ 13) X cf_X4 (ac_2_0 hT_g) (by decide) fl_X4_41 rfl rfl dX4_steer_38 (hr_g) rfl ?_
      refine q_iload_n X 0 dX4_steer_41 rfl ?_
      refine q_iadd X dX4_steer_42 ?_
      refine q_sipush (v := (-20000)) X dX4_steer_43 (by decide) ?_
      refine q_sipush (v := 20000) X dX4_steer_46 (by decide) ?_
      refine q_callSN (h1 := _) (rest := [.ref (gA G g 0)]) (As := [.int ((ρ 13) + ((S_X6_valueOnLine π 8 (ρ 18)) - (ρ 4))), .int (-20000), .int 20000]) X (c_X9_clamp (l := l) hG   ((ρ 13) + ((S_X6_valueOnLine π 8 (ρ 18)) - (ρ 4))) (-20000) 20000 ) mf_X9_clamp ms_X9_clamp ln_X4_114 rfl ⟨by decide, by decide⟩ ⟨Nat.le_refl _, Nat.le_refl _⟩ rfl (Nat.le_of_ble_eq_true rfl) dX4_steer_49 (st2 := [.int (S_X9_clamp ((ρ 13) + ((S_X6_valueOnLine π 8 (ρ 18)) - (ρ 4))) (-20000) 20000), .ref (gA G g 0)]) rfl ?_
      obtain ⟨r3, e_r3⟩ : ∃ z : Nat → Int32, z = va_up ρ 13 (S_X9_clamp ((ρ 13) + ((S_X6_valueOnLine π 8 (ρ 18)) - (ρ 4))) (-20000) 20000) := ⟨_, rfl⟩
      refine q_put (fk := 7) (h2 := va_up h g r3) X cf_X4 (ac_2_0 hT_g) (by decide) fl_X4_41 rfl rfl (by rw [hT_g]; rfl) rfl rfl rfl dX4_steer_52 (hr_g) (by rw [e_r3]) ?_
      refine q_aload_n X 1 dX4_steer_55 rfl ?_
      refine q_get (fk := 0) (v := .ref (gA G g 1)) X cf_X4 (ac_2_0 hT_g) (by decide) fl_X4_12 rfl rfl dX4_steer_56 rfl ?_
      refine q_geti (fk := 4) (x := r3 12) X cf_X5 (ac_2_1 hT_g) (by decide) fl_X4_118 rfl rfl dX4_steer_59 (va_up_self _ _ _) rfl ?_
      refine q_aload_n X 1 dX4_steer_62 rfl ?_
      refine q_get (fk := 0) (v := .ref (gA G g 1)) X cf_X4 (ac_2_0 hT_g) (by decide) fl_X4_12 rfl rfl dX4_steer_63 rfl ?_
      refine q_geti (fk := 2) (x := r3 10) X cf_X5 (ac_2_1 hT_g) (by decide) fl_X4_121 rfl rfl dX4_steer_66 (va_up_self _ _ _) rfl ?_
      refine q_iload_n X 0 dX4_steer_69 rfl ?_
      refine q_imul X dX4_steer_70 ?_
      refine q_bipush (v := 100) X dX4_steer_71 (by decide) ?_
      refine q_callS (h1 := _) (rest := [.int (r3 12)]) (As := [.int ((r3 10) * ((S_X6_valueOnLine π 8 (ρ 18)) - (ρ 4))), .int 100]) X (c_J9_floorDiv_7cf53 (l := l) hG   ((r3 10) * ((S_X6_valueOnLine π 8 (ρ 18)) - (ρ 4))) 100 (by decide)) mf_J9_floorDiv_7cf53 ms_J9_floorDiv_7cf53 lk_X4_124 rfl ⟨by decide, by decide⟩ ⟨Nat.le_refl _, Nat.le_refl _⟩ rfl (Nat.le_of_ble_eq_true rfl) dX4_steer_73 (st2 := [.int (S_J9_floorDiv_7cf53 ((r3 10) * ((S_X6_valueOnLine π 8 (ρ 18)) - (ρ 4))) 100), .int (r3 12)]) rfl ?_
      refine q_iadd X dX4_steer_76 ?_
      refine q_aload_n X 1 dX4_steer_77 rfl ?_
      refine q_get (fk := 0) (v := .ref (gA G g 1)) X cf_X4 (ac_2_0 hT_g) (by decide) fl_X4_12 rfl rfl dX4_steer_78 rfl ?_
      refine q_geti (fk := 3) (x := r3 11) X cf_X5 (ac_2_1 hT_g) (by decide) fl_X4_130 rfl rfl dX4_steer_81 (va_up_self _ _ _) rfl ?_
      refine q_aload_n X 1 dX4_steer_84 rfl ?_
      refine q_geti (fk := 7) (x := r3 13) X cf_X4 (ac_2_0 hT_g) (by decide) fl_X4_41 rfl rfl dX4_steer_85 (va_up_self _ _ _) rfl ?_
      refine q_imul X dX4_steer_88 ?_
      refine q_sipush (v := 1000) X dX4_steer_89 (by decide) ?_
      refine q_callS (h1 := _) (rest := [.int ((r3 12) + (S_J9_floorDiv_7cf53 ((r3 10) * ((S_X6_valueOnLine π 8 (ρ 18)) - (ρ 4))) 100))]) (As := [.int ((r3 11) * (r3 13)), .int 1000]) X (c_J9_floorDiv_7cf53 (l := l) hG   ((r3 11) * (r3 13)) 1000 (by decide)) mf_J9_floorDiv_7cf53 ms_J9_floorDiv_7cf53 lk_X4_124 rfl ⟨by decide, by decide⟩ ⟨Nat.le_refl _, Nat.le_refl _⟩ rfl (Nat.le_of_ble_eq_true rfl) dX4_steer_92 (st2 := [.int (S_J9_floorDiv_7cf53 ((r3 11) * (r3 13)) 1000), .int ((r3 12) + (S_J9_floorDiv_7cf53 ((r3 10) * ((S_X6_valueOnLine π 8 (ρ 18)) - (ρ 4))) 100))]) rfl ?_
      refine q_iadd X dX4_steer_95 ?_
      refine q_istore_n (lv' := [(3, .int (((r3 12) + (S_J9_floorDiv_7cf53 ((r3 10) * ((S_X6_valueOnLine π 8 (ρ 18)) - (ρ 4))) 100)) + (S_J9_floorDiv_7cf53 ((r3 11) * (r3 13)) 1000))), (2, .int ((S_X6_valueOnLine π 8 (ρ 18)) - (ρ 4))), (0, .ref (gA G g 0)), (1, .ref (gA G 3 0))]) X dX4_steer_96 (by decide) rfl ?_
      refine q_aload_n X 2 dX4_steer_97 rfl ?_
      refine q_iload_n X 0 dX4_steer_98 rfl ?_
      refine q_iconst (v := 0) X dX4_steer_99 (by decide) ?_
      refine q_bipush (v := 100) X dX4_steer_100 (by decide) ?_
      refine q_callSN (h1 := _) (rest := [.ref (gA G g 0)]) (As := [.int (((r3 12) + (S_J9_floorDiv_7cf53 ((r3 10) * ((S_X6_valueOnLine π 8 (ρ 18)) - (ρ 4))) 100)) + (S_J9_floorDiv_7cf53 ((r3 11) * (r3 13)) 1000)), .int 0, .int 100]) X (c_X9_clamp (l := l) hG   (((r3 12) + (S_J9_floorDiv_7cf53 ((r3 10) * ((S_X6_valueOnLine π 8 (ρ 18)) - (ρ 4))) 100)) + (S_J9_floorDiv_7cf53 ((r3 11) * (r3 13)) 1000)) 0 100 ) mf_X9_clamp ms_X9_clamp ln_X4_114 rfl ⟨by decide, by decide⟩ ⟨Nat.le_refl _, Nat.le_refl _⟩ rfl (Nat.le_of_ble_eq_true rfl) dX4_steer_102 (st2 := [.int (S_X9_clamp (((r3 12) + (S_J9_floorDiv_7cf53 ((r3 10) * ((S_X6_valueOnLine π 8 (ρ 18)) - (ρ 4))) 100)) + (S_J9_floorDiv_7cf53 ((r3 11) * (r3 13)) 1000)) 0 100), .ref (gA G g 0)]) rfl ?_
      obtain ⟨r4, e_r4⟩ : ∃ z : Nat → Int32, z = va_up r3 7 (S_X9_clamp (((r3 12) + (S_J9_floorDiv_7cf53 ((r3 10) * ((S_X6_valueOnLine π 8 (ρ 18)) - (ρ 4))) 100)) + (S_J9_floorDiv_7cf53 ((r3 11) * (r3 13)) 1000)) 0 100) := ⟨_, rfl⟩
      refine q_put (fk := 6) (h2 := va_up h g r4) X cf_X4 (ac_2_0 hT_g) (by decide) fl_X4_38 rfl rfl (by rw [hT_g]; rfl) rfl rfl rfl dX4_steer_105 (va_up_self _ _ _) (by rw [e_r4, va_up_up]) ?_
      have E : Z = r4 := by subst e_r4; subst e_r3; exact hZ.symm.trans ((if_pos c1).trans ((if_neg c2).trans rfl))
      exact q_vret X hret dX4_steer_108 rfl (by rw [E])
    · skip
      have E : Z = ρ := by exact hZ.symm.trans ((if_pos c1).trans ((if_pos c2).trans rfl))
      exact q_vret X hret dX4_steer_18 rfl (by rw [E]; exact va_up_id2 (hr_g))
def S_X4_tick (ρ : Nat → Int32) (π : Nat → Int32) (μ : Nat → Int32) : (Nat → Int32) := let r1 : Nat → Int32 := va_up ρ 0 ((ρ 0) + 1); let m3 : Nat → Int32 := if (r1 1) = 1 then (let r4 : Nat → Int32 := va_up r1 18 ((r1 18) + 1); let r5 : Nat → Int32 := S_X4_steer r4 π; r5) else (r1); let r7 : Nat → Int32 := S_X4_moveDrum m3; let m9 : Nat → Int32 := if (r7 1) = 1 then (let r12 : Nat → Int32 := S_X0_roast r7 (r7 2); let r13 : Nat → Int32 := S_X0_pop r12 (r12 14); let r14 : Nat → Int32 := va_up r13 19 ((r13 19) + (S_X6_valueBelow μ 6 (r13 16))); r14) else (if (r7 1) = 2 then (let r11 : Nat → Int32 := S_X0_cool r7 (r7 3) (r7 8); r11) else (r7)); let r16 : Nat → Int32 := S_X4_moveProbe m9; let m18 : Nat → Int32 := if (r16 1) = 1 then (let r19 : Nat → Int32 := S_X0_lookForCrack r16 (r16 15); r19) else (r16); m18
set_option maxRecDepth 100000 in
set_option maxHeartbeats 4000000 in
theorem c_X4_tick {G : Geo} {l : Launch} (hG : GOK G) {g : Nat} {h : Hp} {ρ : Nat → Int32} {π : Nat → Int32} {μ : Nat → Int32} (hK : KT G) (hT_g : gT G g = 2) (hr_g : h g = ρ) (hr_3 : h 3 = π) (hr_4 : h 4 = μ) : CM G l yX4_tick cX4_tick 3 none 4 96 [.ref (gA G g 0), .ref (gA G 3 0), .ref (gA G 4 0)] h (va_up h g (S_X4_tick ρ π μ)) none := by
  obtain ⟨Z, hZ⟩ : ∃ Z, S_X4_tick ρ π μ = Z := ⟨_, rfl⟩
  rw [hZ]
  refine q_enter hG mf_X4_tick (Nat.le_of_ble_eq_true rfl) ?_
  intro p e s m below meth c X hret
  have hT_3 : gT G 3 = 3 := hK 3 (by decide)
  have hT_4 : gT G 4 = 3 := hK 4 (by decide)
  refine q_lv (lv2 := [(0, .ref (gA G g 0)), (1, .ref (gA G 3 0)), (2, .ref (gA G 4 0))]) rfl ?_
  refine q_aload_n X 0 dX4_tick_0 rfl ?_
  refine q_dup X dX4_tick_1 rfl ?_
  refine q_geti (fk := 2) (x := ρ 0) X cf_X4 (ac_2_0 hT_g) (by decide) fl_X4_25 rfl rfl dX4_tick_2 (hr_g) rfl ?_
  refine q_iconst (v := 1) X dX4_tick_5 (by decide) ?_
  refine q_iadd X dX4_tick_6 ?_
  obtain ⟨r1, e_r1⟩ : ∃ z : Nat → Int32, z = va_up ρ 0 ((ρ 0) + 1) := ⟨_, rfl⟩
  refine q_put (fk := 2) (h2 := va_up h g r1) X cf_X4 (ac_2_0 hT_g) (by decide) fl_X4_25 rfl rfl (by rw [hT_g]; rfl) rfl rfl rfl dX4_tick_7 (hr_g) (by rw [e_r1]) ?_
  refine q_aload_n X 0 dX4_tick_10 rfl ?_
  refine q_geti (fk := 3) (x := r1 1) X cf_X4 (ac_2_0 hT_g) (by decide) fl_X4_29 rfl rfl dX4_tick_11 (va_up_self _ _ _) rfl ?_
  refine q_iconst (v := 1) X dX4_tick_14 (by decide) ?_
  suffices hJ6 : ∀ (m3 : Nat → Int32), m3 = (if (r1 1) = 1 then (let r4 : Nat → Int32 := va_up r1 18 ((r1 18) + 1); let r5 : Nat → Int32 := S_X4_steer r4 π; r5) else (r1)) → VV G (AA G) p l e { frames := 4, cells := 0, slots := 0, locals := 96 } s m ([.ref (gA G g 0), .ref (gA G 3 0), .ref (gA G 4 0)] : List Value).toArray below meth c 0 0 (MQ below (QC G (va_up h g Z) none) ([.ref (gA G g 0), .ref (gA G 3 0), .ref (gA G 4 0)] : List Value).toArray s 0 0 (AA G)) 3 (va_up h g m3) 36 [(0, .ref (gA G g 0)), (1, .ref (gA G 3 0)), (2, .ref (gA G 4 0))] [] by
    refine q_icmp_ne (tgt := 36) X dX4_tick_15 (by decide) (fun c2 => ?_) (fun c2 => ?_)
    · skip
      refine q_sub (lv2 := [(0, .ref (gA G g 0)), (1, .ref (gA G 3 0)), (2, .ref (gA G 4 0))]) [0, 1, 2] rfl ?_
      exact hJ6 r1 (by exact ((if_neg c2).trans rfl).symm)
    · skip
      refine q_aload_n X 0 dX4_tick_18 rfl ?_
      refine q_get (fk := 1) (v := .ref (gA G g 2)) X cf_X4 (ac_2_0 hT_g) (by decide) fl_X4_21 rfl rfl dX4_tick_19 rfl ?_
      refine q_dup X dX4_tick_22 rfl ?_
      refine q_geti (fk := 2) (x := r1 18) X cf_X0 (ac_2_2 hT_g) (by decide) fl_X4_58 rfl rfl dX4_tick_23 (va_up_self _ _ _) rfl ?_
      refine q_iconst (v := 1) X dX4_tick_26 (by decide) ?_
      refine q_iadd X dX4_tick_27 ?_
      obtain ⟨r4, e_r4⟩ : ∃ z : Nat → Int32, z = va_up r1 18 ((r1 18) + 1) := ⟨_, rfl⟩
      refine q_put (fk := 2) (h2 := va_up h g r4) X cf_X0 (ac_2_2 hT_g) (by decide) fl_X4_58 rfl rfl (by rw [hT_g]; rfl) rfl rfl rfl dX4_tick_28 (va_up_self _ _ _) (by rw [e_r4, va_up_up]) ?_
      refine q_aload_n X 0 dX4_tick_31 rfl ?_
      refine q_aload_n X 1 dX4_tick_32 rfl ?_
      obtain ⟨r5, e_r5⟩ : ∃ z : Nat → Int32, z = S_X4_steer r4 π := ⟨_, rfl⟩
      refine q_callV (h1 := _) (rest := []) (As := [.ref (gA G 3 0)]) X (c_X4_steer (l := l) hG (ρ := r4) (π := π)   hK hT_g (va_up_self _ _ _) ((va_up_ne _ _ (ne_ty hT_3 hT_g (by decide))).trans (hr_3))) mf_X4_steer mv_X4_steer cf_X4 rfl (ac_2_0 hT_g) lk_X4_61 rfl ⟨by decide, by decide⟩ ⟨Nat.le_refl _, Nat.le_refl _⟩ rfl (Nat.le_of_ble_eq_true rfl) dX4_tick_33 (st2 := []) rfl ?_
      refine q_eq (h2 := va_up h g r5) (by rw [e_r5]; exact va_up_up _ _ _ _) rfl ?_
      refine q_sub (lv2 := [(0, .ref (gA G g 0)), (1, .ref (gA G 3 0)), (2, .ref (gA G 4 0))]) [0, 1, 2] rfl ?_
      exact hJ6 r5 (by subst e_r5; subst e_r4; exact ((if_pos c2).trans rfl).symm)
  intro m3 e_m3
  refine q_aload_n X 0 dX4_tick_36 rfl ?_
  obtain ⟨r7, e_r7⟩ : ∃ z : Nat → Int32, z = S_X4_moveDrum m3 := ⟨_, rfl⟩
  refine q_callV (h1 := _) (rest := []) (As := []) X (c_X4_moveDrum (l := l) hG (ρ := m3)   hT_g (va_up_self _ _ _)) mf_X4_moveDrum mv_X4_moveDrum cf_X4 rfl (ac_2_0 hT_g) lk_X4_65 rfl ⟨by decide, by decide⟩ ⟨Nat.le_refl _, Nat.le_refl _⟩ rfl (Nat.le_of_ble_eq_true rfl) dX4_tick_37 (st2 := []) rfl ?_
  refine q_eq (h2 := va_up h g r7) (by rw [e_r7]; exact va_up_up _ _ _ _) rfl ?_
  refine q_aload_n X 0 dX4_tick_40 rfl ?_
  refine q_geti (fk := 3) (x := r7 1) X cf_X4 (ac_2_0 hT_g) (by decide) fl_X4_29 rfl rfl dX4_tick_41 (va_up_self _ _ _) rfl ?_
  refine q_iconst (v := 1) X dX4_tick_44 (by decide) ?_
  suffices hJ15 : ∀ (m9 : Nat → Int32), m9 = (if (r7 1) = 1 then (let r12 : Nat → Int32 := S_X0_roast r7 (r7 2); let r13 : Nat → Int32 := S_X0_pop r12 (r12 14); let r14 : Nat → Int32 := va_up r13 19 ((r13 19) + (S_X6_valueBelow μ 6 (r13 16))); r14) else (if (r7 1) = 2 then (let r11 : Nat → Int32 := S_X0_cool r7 (r7 3) (r7 8); r11) else (r7))) → VV G (AA G) p l e { frames := 4, cells := 0, slots := 0, locals := 96 } s m ([.ref (gA G g 0), .ref (gA G 3 0), .ref (gA G 4 0)] : List Value).toArray below meth c 0 0 (MQ below (QC G (va_up h g Z) none) ([.ref (gA G g 0), .ref (gA G 3 0), .ref (gA G 4 0)] : List Value).toArray s 0 0 (AA G)) 3 (va_up h g m9) 128 [(0, .ref (gA G g 0)), (1, .ref (gA G 3 0)), (2, .ref (gA G 4 0))] [] by
    refine q_icmp_ne (tgt := 99) X dX4_tick_45 (by decide) (fun c8 => ?_) (fun c8 => ?_)
    · skip
      refine q_aload_n X 0 dX4_tick_99 rfl ?_
      refine q_geti (fk := 3) (x := r7 1) X cf_X4 (ac_2_0 hT_g) (by decide) fl_X4_29 rfl rfl dX4_tick_100 (va_up_self _ _ _) rfl ?_
      refine q_iconst (v := 2) X dX4_tick_103 (by decide) ?_
      refine q_icmp_ne (tgt := 128) X dX4_tick_104 (by decide) (fun c10 => ?_) (fun c10 => ?_)
      · skip
        refine q_sub (lv2 := [(0, .ref (gA G g 0)), (1, .ref (gA G 3 0)), (2, .ref (gA G 4 0))]) [0, 1, 2] rfl ?_
        exact hJ15 r7 (by exact ((if_neg c8).trans ((if_neg c10).trans rfl)).symm)
      · skip
        refine q_aload_n X 0 dX4_tick_107 rfl ?_
        refine q_get (fk := 1) (v := .ref (gA G g 2)) X cf_X4 (ac_2_0 hT_g) (by decide) fl_X4_21 rfl rfl dX4_tick_108 rfl ?_
        refine q_aload_n X 0 dX4_tick_111 rfl ?_
        refine q_get (fk := 0) (v := .ref (gA G g 1)) X cf_X4 (ac_2_0 hT_g) (by decide) fl_X4_12 rfl rfl dX4_tick_112 rfl ?_
        refine q_geti (fk := 0) (x := r7 3) X cf_X5 (ac_2_1 hT_g) (by decide) fl_X4_51 rfl rfl dX4_tick_115 (va_up_self _ _ _) rfl ?_
        refine q_aload_n X 0 dX4_tick_118 rfl ?_
        refine q_get (fk := 0) (v := .ref (gA G g 1)) X cf_X4 (ac_2_0 hT_g) (by decide) fl_X4_12 rfl rfl dX4_tick_119 rfl ?_
        refine q_geti (fk := 9) (x := r7 8) X cf_X5 (ac_2_1 hT_g) (by decide) fl_X4_90 rfl rfl dX4_tick_122 (va_up_self _ _ _) rfl ?_
        obtain ⟨r11, e_r11⟩ : ∃ z : Nat → Int32, z = S_X0_cool r7 (r7 3) (r7 8) := ⟨_, rfl⟩
        refine q_callV (h1 := _) (rest := []) (As := [.int (r7 3), .int (r7 8)]) X (c_X0_cool (l := l) hG (ρ := r7)  (r7 3) (r7 8) hT_g (va_up_self _ _ _)) mf_X0_cool mv_X0_cool cf_X0 rfl (ac_2_2 hT_g) lk_X4_93 rfl ⟨by decide, by decide⟩ ⟨Nat.le_refl _, Nat.le_refl _⟩ rfl (Nat.le_of_ble_eq_true rfl) dX4_tick_125 (st2 := []) rfl ?_
        refine q_eq (h2 := va_up h g r11) (by rw [e_r11]; exact va_up_up _ _ _ _) rfl ?_
        refine q_sub (lv2 := [(0, .ref (gA G g 0)), (1, .ref (gA G 3 0)), (2, .ref (gA G 4 0))]) [0, 1, 2] rfl ?_
        exact hJ15 r11 (by subst e_r11; exact ((if_neg c8).trans ((if_pos c10).trans rfl)).symm)
    · skip
      refine q_aload_n X 0 dX4_tick_48 rfl ?_
      refine q_get (fk := 1) (v := .ref (gA G g 2)) X cf_X4 (ac_2_0 hT_g) (by decide) fl_X4_21 rfl rfl dX4_tick_49 rfl ?_
      refine q_aload_n X 0 dX4_tick_52 rfl ?_
      refine q_geti (fk := 4) (x := r7 2) X cf_X4 (ac_2_0 hT_g) (by decide) fl_X4_32 rfl rfl dX4_tick_53 (va_up_self _ _ _) rfl ?_
      obtain ⟨r12, e_r12⟩ : ∃ z : Nat → Int32, z = S_X0_roast r7 (r7 2) := ⟨_, rfl⟩
      refine q_callV (h1 := _) (rest := []) (As := [.int (r7 2)]) X (c_X0_roast (l := l) hG (ρ := r7)  (r7 2) hT_g (va_up_self _ _ _)) mf_X0_roast mv_X0_roast cf_X0 rfl (ac_2_2 hT_g) lk_X4_68 rfl ⟨by decide, by decide⟩ ⟨Nat.le_refl _, Nat.le_refl _⟩ rfl (Nat.le_of_ble_eq_true rfl) dX4_tick_56 (st2 := []) rfl ?_
      refine q_eq (h2 := va_up h g r12) (by rw [e_r12]; exact va_up_up _ _ _ _) rfl ?_
      refine q_aload_n X 0 dX4_tick_59 rfl ?_
      refine q_get (fk := 1) (v := .ref (gA G g 2)) X cf_X4 (ac_2_0 hT_g) (by decide) fl_X4_21 rfl rfl dX4_tick_60 rfl ?_
      refine q_aload_n X 0 dX4_tick_63 rfl ?_
      refine q_get (fk := 0) (v := .ref (gA G g 1)) X cf_X4 (ac_2_0 hT_g) (by decide) fl_X4_12 rfl rfl dX4_tick_64 rfl ?_
      refine q_geti (fk := 7) (x := r12 14) X cf_X5 (ac_2_1 hT_g) (by decide) fl_X4_72 rfl rfl dX4_tick_67 (va_up_self _ _ _) rfl ?_
      obtain ⟨r13, e_r13⟩ : ∃ z : Nat → Int32, z = S_X0_pop r12 (r12 14) := ⟨_, rfl⟩
      refine q_callV (h1 := _) (rest := []) (As := [.int (r12 14)]) X (c_X0_pop (l := l) hG (ρ := r12)  (r12 14) hT_g (va_up_self _ _ _)) mf_X0_pop mv_X0_pop cf_X0 rfl (ac_2_2 hT_g) lk_X4_75 rfl ⟨by decide, by decide⟩ ⟨Nat.le_refl _, Nat.le_refl _⟩ rfl (Nat.le_of_ble_eq_true rfl) dX4_tick_70 (st2 := []) rfl ?_
      refine q_eq (h2 := va_up h g r13) (by rw [e_r13]; exact va_up_up _ _ _ _) rfl ?_
      refine q_aload_n X 0 dX4_tick_73 rfl ?_
      refine q_get (fk := 1) (v := .ref (gA G g 2)) X cf_X4 (ac_2_0 hT_g) (by decide) fl_X4_21 rfl rfl dX4_tick_74 rfl ?_
      refine q_dup X dX4_tick_77 rfl ?_
      refine q_geti (fk := 3) (x := r13 19) X cf_X0 (ac_2_2 hT_g) (by decide) fl_X4_78 rfl rfl dX4_tick_78 (va_up_self _ _ _) rfl ?_
      refine q_aload_n X 2 dX4_tick_81 rfl ?_
      refine q_aload_n X 0 dX4_tick_82 rfl ?_
      refine q_get (fk := 1) (v := .ref (gA G g 2)) X cf_X4 (ac_2_0 hT_g) (by decide) fl_X4_21 rfl rfl dX4_tick_83 rfl ?_
      refine q_geti (fk := 0) (x := r13 16) X cf_X0 (ac_2_2 hT_g) (by decide) fl_X4_81 rfl rfl dX4_tick_86 (va_up_self _ _ _) rfl ?_
      refine q_callV (h1 := _) (rest := [.int (r13 19), .ref (gA G g 2)]) (As := [.int (r13 16)]) X (c_X6_valueBelow (l := l) hG (ρ := μ) (n := 6) (r13 16) hT_4 ((va_up_ne _ _ (ne_ty hT_4 hT_g (by decide))).trans (hr_4)) (by rw [hT_4]; rfl)) mf_X6_valueBelow mv_X6_valueBelow cf_X6 rfl (ac_3_0 hT_4) lk_X4_84 rfl ⟨by decide, by decide⟩ ⟨Nat.le_refl _, Nat.le_refl _⟩ rfl (Nat.le_of_ble_eq_true rfl) dX4_tick_89 (st2 := [.int (S_X6_valueBelow μ 6 (r13 16)), .int (r13 19), .ref (gA G g 2)]) rfl ?_
      refine q_iadd X dX4_tick_92 ?_
      obtain ⟨r14, e_r14⟩ : ∃ z : Nat → Int32, z = va_up r13 19 ((r13 19) + (S_X6_valueBelow μ 6 (r13 16))) := ⟨_, rfl⟩
      refine q_put (fk := 3) (h2 := va_up h g r14) X cf_X0 (ac_2_2 hT_g) (by decide) fl_X4_78 rfl rfl (by rw [hT_g]; rfl) rfl rfl rfl dX4_tick_93 (va_up_self _ _ _) (by rw [e_r14, va_up_up]) ?_
      refine q_goto (tgt := 128) X dX4_tick_96 (by decide) ?_
      refine q_sub (lv2 := [(0, .ref (gA G g 0)), (1, .ref (gA G 3 0)), (2, .ref (gA G 4 0))]) [0, 1, 2] rfl ?_
      exact hJ15 r14 (by subst e_r14; subst e_r13; subst e_r12; exact ((if_pos c8).trans rfl).symm)
  intro m9 e_m9
  refine q_aload_n X 0 dX4_tick_128 rfl ?_
  obtain ⟨r16, e_r16⟩ : ∃ z : Nat → Int32, z = S_X4_moveProbe m9 := ⟨_, rfl⟩
  refine q_callV (h1 := _) (rest := []) (As := []) X (c_X4_moveProbe (l := l) hG (ρ := m9)   hT_g (va_up_self _ _ _)) mf_X4_moveProbe mv_X4_moveProbe cf_X4 rfl (ac_2_0 hT_g) lk_X4_96 rfl ⟨by decide, by decide⟩ ⟨Nat.le_refl _, Nat.le_refl _⟩ rfl (Nat.le_of_ble_eq_true rfl) dX4_tick_129 (st2 := []) rfl ?_
  refine q_eq (h2 := va_up h g r16) (by rw [e_r16]; exact va_up_up _ _ _ _) rfl ?_
  refine q_aload_n X 0 dX4_tick_132 rfl ?_
  refine q_geti (fk := 3) (x := r16 1) X cf_X4 (ac_2_0 hT_g) (by decide) fl_X4_29 rfl rfl dX4_tick_133 (va_up_self _ _ _) rfl ?_
  refine q_iconst (v := 1) X dX4_tick_136 (by decide) ?_
  suffices hJ20 : ∀ (m18 : Nat → Int32), m18 = (if (r16 1) = 1 then (let r19 : Nat → Int32 := S_X0_lookForCrack r16 (r16 15); r19) else (r16)) → VV G (AA G) p l e { frames := 4, cells := 0, slots := 0, locals := 96 } s m ([.ref (gA G g 0), .ref (gA G 3 0), .ref (gA G 4 0)] : List Value).toArray below meth c 0 0 (MQ below (QC G (va_up h g Z) none) ([.ref (gA G g 0), .ref (gA G 3 0), .ref (gA G 4 0)] : List Value).toArray s 0 0 (AA G)) 3 (va_up h g m18) 154 [(0, .ref (gA G g 0)), (1, .ref (gA G 3 0)), (2, .ref (gA G 4 0))] [] by
    refine q_icmp_ne (tgt := 154) X dX4_tick_137 (by decide) (fun c17 => ?_) (fun c17 => ?_)
    · skip
      refine q_sub (lv2 := [(0, .ref (gA G g 0)), (1, .ref (gA G 3 0)), (2, .ref (gA G 4 0))]) [0, 1, 2] rfl ?_
      exact hJ20 r16 (by exact ((if_neg c17).trans rfl).symm)
    · skip
      refine q_aload_n X 0 dX4_tick_140 rfl ?_
      refine q_get (fk := 1) (v := .ref (gA G g 2)) X cf_X4 (ac_2_0 hT_g) (by decide) fl_X4_21 rfl rfl dX4_tick_141 rfl ?_
      refine q_aload_n X 0 dX4_tick_144 rfl ?_
      refine q_get (fk := 0) (v := .ref (gA G g 1)) X cf_X4 (ac_2_0 hT_g) (by decide) fl_X4_12 rfl rfl dX4_tick_145 rfl ?_
      refine q_geti (fk := 8) (x := r16 15) X cf_X5 (ac_2_1 hT_g) (by decide) fl_X4_99 rfl rfl dX4_tick_148 (va_up_self _ _ _) rfl ?_
      obtain ⟨r19, e_r19⟩ : ∃ z : Nat → Int32, z = S_X0_lookForCrack r16 (r16 15) := ⟨_, rfl⟩
      refine q_callV (h1 := _) (rest := []) (As := [.int (r16 15)]) X (c_X0_lookForCrack (l := l) hG (ρ := r16)  (r16 15) hT_g (va_up_self _ _ _)) mf_X0_lookForCrack mv_X0_lookForCrack cf_X0 rfl (ac_2_2 hT_g) lk_X4_102 rfl ⟨by decide, by decide⟩ ⟨Nat.le_refl _, Nat.le_refl _⟩ rfl (Nat.le_of_ble_eq_true rfl) dX4_tick_151 (st2 := []) rfl ?_
      refine q_eq (h2 := va_up h g r19) (by rw [e_r19]; exact va_up_up _ _ _ _) rfl ?_
      refine q_sub (lv2 := [(0, .ref (gA G g 0)), (1, .ref (gA G 3 0)), (2, .ref (gA G 4 0))]) [0, 1, 2] rfl ?_
      exact hJ20 r19 (by subst e_r19; exact ((if_pos c17).trans rfl).symm)
  intro m18 e_m18
  have E : Z = m18 := by subst e_m18; subst e_r16; subst e_m9; subst e_r7; subst e_m3; subst e_r1; exact hZ.symm.trans (rfl)
  exact q_vret X hret dX4_tick_154 rfl (by rw [E])
end
section
theorem ms_dn5 {k : Int32} {f : Nat} (h : ¬ k < 6) (hm : (k.toInt - (5 : Int32).toInt).toNat < f + 1) : ((k + (-1)).toInt - (5 : Int32).toInt).toNat < f := by
  refine ms_dn (fun z => h ?_) hm
  rw [Int32.le_iff_toInt_le] at z
  rw [Int32.lt_iff_toInt_lt]
  have : (5 : Int32).toInt = 5 := rfl
  have : (6 : Int32).toInt = 6 := rfl
  omega
def S_X8_add (τ : Nat → Int32) (ch : Int32) : (Nat → Int32) := let m2 : Nat → Int32 := if 100 ≤ (τ 0) then (τ) else (let r3 : Nat → Int32 := S_put τ 1 1 100 (τ 0) ch; let r4 : Nat → Int32 := va_up r3 0 ((r3 0) + 1); r4); m2
set_option maxRecDepth 100000 in
set_option maxHeartbeats 4000000 in
theorem c_X8_add {G : Geo} {l : Launch} (hG : GOK G) {g : Nat} {h : Hp} {τ : Nat → Int32} (ch : Int32) (hT_g : gT G g = 6) (hr_g : h g = τ) : CM G l yX8_add cX8_add 2 none 1 22 [.ref (gA G g 0), .int ch] h (va_up h g (S_X8_add τ ch)) none := by
  obtain ⟨Z, hZ⟩ : ∃ Z, S_X8_add τ ch = Z := ⟨_, rfl⟩
  rw [hZ]
  refine q_enter hG mf_X8_add (Nat.le_of_ble_eq_true rfl) ?_
  intro p e s m below meth c X hret
  refine q_lv (lv2 := [(0, .ref (gA G g 0)), (1, .int ch)]) rfl ?_
  refine q_aload_n X 0 dX8_add_0 rfl ?_
  refine q_geti (fk := 1) (x := τ 0) X cf_X8 (ac_6_0 hT_g) (by decide) fl_X8_15 rfl rfl dX8_add_1 (hr_g) rfl ?_
  refine q_bipush (v := 100) X dX8_add_4 (by decide) ?_
  suffices hJ5 : ∀ (m2 : Nat → Int32), m2 = (if 100 ≤ (τ 0) then (τ) else (let r3 : Nat → Int32 := S_put τ 1 1 100 (τ 0) ch; let r4 : Nat → Int32 := va_up r3 0 ((r3 0) + 1); r4)) → VV G (AA G) p l e { frames := 1, cells := 0, slots := 0, locals := 22 } s m ([.ref (gA G g 0), .int ch] : List Value).toArray below meth c 0 0 (MQ below (QC G (va_up h g Z) none) ([.ref (gA G g 0), .int ch] : List Value).toArray s 0 0 (AA G)) 2 (va_up h g m2) 31 [(0, .ref (gA G g 0)), (1, .int ch)] [] by
    refine q_icmp_ge (tgt := 31) X dX8_add_6 (by decide) (fun c1 => ?_) (fun c1 => ?_)
    · skip
      refine q_sub (lv2 := [(0, .ref (gA G g 0)), (1, .int ch)]) [0, 1] rfl ?_
      refine q_eq (h2 := va_up h g τ) (va_up_id2 (hr_g)).symm rfl ?_
      exact hJ5 τ (by exact ((if_pos c1).trans rfl).symm)
    · skip
      refine q_aload_n X 0 dX8_add_9 rfl ?_
      refine q_get (fk := 0) (v := .ref (gA G g 1)) X cf_X8 (ac_6_0 hT_g) (by decide) fl_X8_9 rfl rfl dX8_add_10 rfl ?_
      refine q_aload_n X 0 dX8_add_13 rfl ?_
      refine q_geti (fk := 1) (x := τ 0) X cf_X8 (ac_6_0 hT_g) (by decide) fl_X8_15 rfl rfl dX8_add_14 (hr_g) rfl ?_
      refine q_iload_n X 1 dX8_add_17 rfl ?_
      obtain ⟨r3, e_r3⟩ : ∃ z : Nat → Int32, z = S_put τ 1 1 100 (τ 0) ch := ⟨_, rfl⟩
      refine q_callSN (h1 := _) (rest := []) (As := [.ref (gA G g 1), .int (τ 0), .int ch]) X (c_X9_put (l := l) hG (n := 100) (row := τ) (τ 0) ch (ac_6_1 hT_g) (hr_g) (by rw [hT_g]; rfl)) mf_X9_put ms_X9_put ln_X8_19 rfl ⟨by decide, by decide⟩ ⟨Nat.le_refl _, Nat.le_refl _⟩ rfl (Nat.le_of_ble_eq_true rfl) dX8_add_18 (st2 := []) rfl ?_
      refine q_eq (h2 := va_up h g r3) (by rw [e_r3]) rfl ?_
      refine q_aload_n X 0 dX8_add_21 rfl ?_
      refine q_dup X dX8_add_22 rfl ?_
      refine q_geti (fk := 1) (x := r3 0) X cf_X8 (ac_6_0 hT_g) (by decide) fl_X8_15 rfl rfl dX8_add_23 (va_up_self _ _ _) rfl ?_
      refine q_iconst (v := 1) X dX8_add_26 (by decide) ?_
      refine q_iadd X dX8_add_27 ?_
      obtain ⟨r4, e_r4⟩ : ∃ z : Nat → Int32, z = va_up r3 0 ((r3 0) + 1) := ⟨_, rfl⟩
      refine q_put (fk := 1) (h2 := va_up h g r4) X cf_X8 (ac_6_0 hT_g) (by decide) fl_X8_15 rfl rfl (by rw [hT_g]; rfl) rfl rfl rfl dX8_add_28 (va_up_self _ _ _) (by rw [e_r4, va_up_up]) ?_
      refine q_sub (lv2 := [(0, .ref (gA G g 0)), (1, .int ch)]) [0, 1] rfl ?_
      exact hJ5 r4 (by subst e_r4; subst e_r3; exact ((if_neg c1).trans rfl).symm)
  intro m2 e_m2
  have E : Z = m2 := by subst e_m2; exact hZ.symm.trans (rfl)
  exact q_vret X hret dX8_add_31 rfl (by rw [E])
def S_X8_character (τ : Nat → Int32) (of : Int32) : Int32 := let m2 : Int32 := if (τ 0) ≤ of then (0) else (S_at τ 1 1 100 of); m2
set_option maxRecDepth 100000 in
set_option maxHeartbeats 4000000 in
theorem c_X8_character {G : Geo} {l : Launch} (hG : GOK G) {g : Nat} {h : Hp} {τ : Nat → Int32} (of : Int32) (hT_g : gT G g = 6) (hr_g : h g = τ) : CM G l yX8_character cX8_character 2 (some .int) 1 21 [.ref (gA G g 0), .int of] h h (some (.int (S_X8_character τ of))) := by
  obtain ⟨Z, hZ⟩ : ∃ Z, S_X8_character τ of = Z := ⟨_, rfl⟩
  rw [hZ]
  refine q_enter hG mf_X8_character (Nat.le_of_ble_eq_true rfl) ?_
  intro p e s m below meth c X hret
  refine q_lv (lv2 := [(0, .ref (gA G g 0)), (1, .int of)]) rfl ?_
  refine q_iload_n X 1 dX8_character_0 rfl ?_
  refine q_aload_n X 0 dX8_character_1 rfl ?_
  refine q_geti (fk := 1) (x := τ 0) X cf_X8 (ac_6_0 hT_g) (by decide) fl_X8_15 rfl rfl dX8_character_2 (hr_g) rfl ?_
  suffices hJ3 : ∀ (m2 : Int32), m2 = (if (τ 0) ≤ of then (0) else (S_at τ 1 1 100 of)) → VV G (AA G) p l e { frames := 1, cells := 0, slots := 0, locals := 21 } s m ([.ref (gA G g 0), .int of] : List Value).toArray below meth c 0 0 (MQ below (QC G h (some (.int Z))) ([.ref (gA G g 0), .int of] : List Value).toArray s 0 0 (AA G)) 2 h 20 [(0, .ref (gA G g 0)), (1, .int of)] [.int m2] by
    refine q_icmp_ge (tgt := 19) X dX8_character_5 (by decide) (fun c1 => ?_) (fun c1 => ?_)
    · skip
      refine q_iconst (v := 0) X dX8_character_19 (by decide) ?_
      refine q_sub (lv2 := [(0, .ref (gA G g 0)), (1, .int of)]) [0, 1] rfl ?_
      exact hJ3 0 (by exact ((if_pos c1).trans rfl).symm)
    · skip
      refine q_aload_n X 0 dX8_character_8 rfl ?_
      refine q_get (fk := 0) (v := .ref (gA G g 1)) X cf_X8 (ac_6_0 hT_g) (by decide) fl_X8_9 rfl rfl dX8_character_9 rfl ?_
      refine q_iload_n X 1 dX8_character_12 rfl ?_
      refine q_callSN (h1 := _) (rest := []) (As := [.ref (gA G g 1), .int of]) X (c_X9_at (l := l) hG (n := 100) (row := τ) of (ac_6_1 hT_g) (hr_g) (by rw [hT_g]; rfl)) mf_X9_at ms_X9_at ln_X8_23 rfl ⟨by decide, by decide⟩ ⟨Nat.le_refl _, Nat.le_refl _⟩ rfl (Nat.le_of_ble_eq_true rfl) dX8_character_13 (st2 := [.int (S_at τ 1 1 100 of)]) rfl ?_
      refine q_goto (tgt := 20) X dX8_character_16 (by decide) ?_
      refine q_sub (lv2 := [(0, .ref (gA G g 0)), (1, .int of)]) [0, 1] rfl ?_
      exact hJ3 (S_at τ 1 1 100 of) (by exact ((if_neg c1).trans rfl).symm)
  intro m2 e_m2
  have E : Z = m2 := by subst e_m2; exact hZ.symm.trans (rfl)
  exact q_iret X hret dX8_character_20 (by rw [E]) rfl
def S_X8_isDigit (τ : Nat → Int32) (of : Int32) : Int32 := S_X9_inRange (S_X8_character τ of) 48 57
set_option maxRecDepth 100000 in
set_option maxHeartbeats 4000000 in
theorem c_X8_isDigit {G : Geo} {l : Launch} (hG : GOK G) {g : Nat} {h : Hp} {τ : Nat → Int32} (of : Int32) (hT_g : gT G g = 6) (hr_g : h g = τ) : CM G l yX8_isDigit cX8_isDigit 2 (some .boolean) 2 42 [.ref (gA G g 0), .int of] h h (some (.int (S_X8_isDigit τ of))) := by
  obtain ⟨Z, hZ⟩ : ∃ Z, S_X8_isDigit τ of = Z := ⟨_, rfl⟩
  rw [hZ]
  refine q_enter hG mf_X8_isDigit (Nat.le_of_ble_eq_true rfl) ?_
  intro p e s m below meth c X hret
  refine q_lv (lv2 := [(0, .ref (gA G g 0)), (1, .int of)]) rfl ?_
  refine q_aload_n X 0 dX8_isDigit_0 rfl ?_
  refine q_iload_n X 1 dX8_isDigit_1 rfl ?_
  refine q_callV (h1 := _) (rest := []) (As := [.int of]) X (c_X8_character (l := l) hG (τ := τ)  of hT_g (hr_g)) mf_X8_character mv_X8_character cf_X8 rfl (ac_6_0 hT_g) lk_X8_27 rfl ⟨by decide, by decide⟩ ⟨Nat.le_refl _, Nat.le_refl _⟩ rfl (Nat.le_of_ble_eq_true rfl) dX8_isDigit_2 (st2 := [.int (S_X8_character τ of)]) rfl ?_
  refine q_bipush (v := 48) X dX8_isDigit_5 (by decide) ?_
  refine q_bipush (v := 57) X dX8_isDigit_7 (by decide) ?_
  refine q_callSN (h1 := _) (rest := []) (As := [.int (S_X8_character τ of), .int 48, .int 57]) X (c_X9_inRange (l := l) hG   (S_X8_character τ of) 48 57 ) mf_X9_inRange ms_X9_inRange ln_X8_31 rfl ⟨by decide, by decide⟩ ⟨Nat.le_refl _, Nat.le_refl _⟩ rfl (Nat.le_of_ble_eq_true rfl) dX8_isDigit_9 (st2 := [.int (S_X9_inRange (S_X8_character τ of) 48 57)]) rfl ?_
  have E : Z = S_X9_inRange (S_X8_character τ of) 48 57 := by exact hZ.symm.trans (rfl)
  exact q_zret X hret (z01 (Z_X9_inRange ..)) dX8_isDigit_12 (by rw [E]) rfl
theorem Z_X8_isDigit (τ : Nat → Int32) (of : Int32) : (S_X8_isDigit τ of) = 0 ∨ (S_X8_isDigit τ of) = 1 := by
  unfold S_X8_isDigit
  exact Z_X9_inRange ..
def L_X8_afterSpaces_4 (fu : Nat) (τ : Nat → Int32) (of : Int32) (en : Int32) (k : Int32) : Int32 := match fu with
  | 0 => 0
  | fu + 1 => if 100 ≤ k then (en) else (if (S_X8_character τ en) = 32 then (L_X8_afterSpaces_4 fu τ of (en + 1) (k + 1)) else (en))
def S_X8_afterSpaces (τ : Nat → Int32) (of : Int32) : Int32 := L_X8_afterSpaces_4 101 τ of of 0
set_option maxRecDepth 100000 in
set_option maxHeartbeats 4000000 in
theorem w_X8_afterSpaces_4 {G : Geo} {p : Program} {l : Launch} {e : Env} {s : State} {m : MethodId} {args : Array Value} {below : List Frame} {meth : Method} {c : Code} {h : Hp} {g : Nat} {τ : Nat → Int32} {of : Int32} (X : CX G (AA G) p s m meth c RX8 cX8_afterSpaces 4) (hret : meth.sig.returnType = (some .int)) (hT_g : gT G g = 6) (hr_g : h g = τ) (Z : Int32) : ∀ (fu : Nat) (en : Int32) (k : Int32), ((100 : Int32).toInt - k.toInt).toNat < fu → L_X8_afterSpaces_4 fu τ of en k = Z → VV G (AA G) p l e { frames := 2, cells := 0, slots := 0, locals := 42 } s m args below meth c 0 0 (MQ below (QC G h (some (.int Z))) args s 0 0 (AA G)) 4 h 4 [(0, .ref (gA G g 0)), (1, .int of), (2, .int en), (3, .int k)] [] := by
  intro fu
  induction fu with
  | zero =>
    intro en k  hm
    exact absurd hm (Nat.not_lt_zero _)
  | succ fu ih =>
    intro en k  hm hZ
    have hG := X.2.2.2.2.2.1
    refine q_iload_n X 3 dX8_afterSpaces_4 rfl ?_
    refine q_bipush (v := 100) X dX8_afterSpaces_5 (by decide) ?_
    refine q_icmp_ge (tgt := 29) X dX8_afterSpaces_7 (by decide) (fun c1 => ?_) (fun c1 => ?_)
    · skip
      refine q_iload_n X 2 dX8_afterSpaces_29 rfl ?_
      have E : Z = en := by exact hZ.symm.trans ((if_pos c1).trans rfl)
      exact q_iret X hret dX8_afterSpaces_30 (by rw [E]) rfl
    · skip
      refine q_aload_n X 0 dX8_afterSpaces_10 rfl ?_
      refine q_iload_n X 2 dX8_afterSpaces_11 rfl ?_
      refine q_callV (h1 := _) (rest := []) (As := [.int en]) X (c_X8_character (l := l) hG (τ := τ)  en hT_g (hr_g)) mf_X8_character mv_X8_character cf_X8 rfl (ac_6_0 hT_g) lk_X8_27 rfl ⟨by decide, by decide⟩ ⟨Nat.le_refl _, Nat.le_refl _⟩ rfl (Nat.le_of_ble_eq_true rfl) dX8_afterSpaces_12 (st2 := [.int (S_X8_character τ en)]) rfl ?_
      refine q_bipush (v := 32) X dX8_afterSpaces_15 (by decide) ?_
      refine q_icmp_ne (tgt := 29) X dX8_afterSpaces_17 (by decide) (fun c2 => ?_) (fun c2 => ?_)
      · skip
        refine q_iload_n X 2 dX8_afterSpaces_29 rfl ?_
        have E : Z = en := by exact hZ.symm.trans ((if_neg c1).trans ((if_neg c2).trans rfl))
        exact q_iret X hret dX8_afterSpaces_30 (by rw [E]) rfl
      · skip
        refine q_iinc (v := en + 1) (lv' := [(2, .int (en + 1)), (0, .ref (gA G g 0)), (1, .int of), (3, .int k)]) X 2 dX8_afterSpaces_20 rfl rfl (by decide) rfl ?_
        refine q_iinc (v := k + 1) (lv' := [(3, .int (k + 1)), (2, .int (en + 1)), (0, .ref (gA G g 0)), (1, .int of)]) X 3 dX8_afterSpaces_23 rfl rfl (by decide) rfl ?_
        refine q_goto (tgt := 4) X dX8_afterSpaces_26 (by decide) ?_
        refine q_sub (lv2 := [(0, .ref (gA G g 0)), (1, .int of), (2, .int (en + 1)), (3, .int (k + 1))]) [2, 3, 1, 0] rfl ?_
        have E : L_X8_afterSpaces_4 fu τ of (en + 1) (k + 1) = Z := Eq.trans (Eq.symm (by exact (if_neg c1).trans ((if_pos c2).trans rfl))) hZ
        exact ih (en + 1) (k + 1)  (by exact ms_up c1 hm) E
set_option maxRecDepth 100000 in
set_option maxHeartbeats 4000000 in
theorem c_X8_afterSpaces {G : Geo} {l : Launch} (hG : GOK G) {g : Nat} {h : Hp} {τ : Nat → Int32} (of : Int32) (hT_g : gT G g = 6) (hr_g : h g = τ) : CM G l yX8_afterSpaces cX8_afterSpaces 4 (some .int) 2 42 [.ref (gA G g 0), .int of] h h (some (.int (S_X8_afterSpaces τ of))) := by
  obtain ⟨Z, hZ⟩ : ∃ Z, S_X8_afterSpaces τ of = Z := ⟨_, rfl⟩
  rw [hZ]
  refine q_enter hG mf_X8_afterSpaces (Nat.le_of_ble_eq_true rfl) ?_
  intro p e s m below meth c X hret
  refine q_lv (lv2 := [(0, .ref (gA G g 0)), (1, .int of)]) rfl ?_
  refine q_iload_n X 1 dX8_afterSpaces_0 rfl ?_
  refine q_istore_n (lv' := [(2, .int of), (0, .ref (gA G g 0)), (1, .int of)]) X dX8_afterSpaces_1 (by decide) rfl ?_
  refine q_iconst (v := 0) X dX8_afterSpaces_2 (by decide) ?_
  refine q_istore_n (lv' := [(3, .int 0), (2, .int of), (0, .ref (gA G g 0)), (1, .int of)]) X dX8_afterSpaces_3 (by decide) rfl ?_
  refine q_sub (lv2 := [(0, .ref (gA G g 0)), (1, .int of), (2, .int of), (3, .int 0)]) [2, 3, 1, 0] rfl ?_
  have E : L_X8_afterSpaces_4 101 τ of of 0 = Z := Eq.trans (Eq.symm (by exact rfl)) hZ
  exact w_X8_afterSpaces_4 X hret hT_g hr_g Z 101 of 0  (by decide) E
def L_X8_afterToken_6 (fu : Nat) (τ : Nat → Int32) (of : Int32) (en : Int32) (k : Int32) : Int32 := match fu with
  | 0 => 0
  | fu + 1 => if 100 ≤ k then (en) else (if (S_X8_isDigit τ of) = 0 then (en) else (if (S_X8_isDigit τ en) = 0 then (en) else (L_X8_afterToken_6 fu τ of (en + 1) (k + 1))))
def S_X8_afterToken (τ : Nat → Int32) (of : Int32) : Int32 := L_X8_afterToken_6 101 τ of (of + 1) 0
set_option maxRecDepth 100000 in
set_option maxHeartbeats 4000000 in
theorem w_X8_afterToken_6 {G : Geo} {p : Program} {l : Launch} {e : Env} {s : State} {m : MethodId} {args : Array Value} {below : List Frame} {meth : Method} {c : Code} {h : Hp} {g : Nat} {τ : Nat → Int32} {of : Int32} (X : CX G (AA G) p s m meth c RX8 cX8_afterToken 4) (hret : meth.sig.returnType = (some .int)) (hT_g : gT G g = 6) (hr_g : h g = τ) (Z : Int32) : ∀ (fu : Nat) (en : Int32) (k : Int32), ((100 : Int32).toInt - k.toInt).toNat < fu → L_X8_afterToken_6 fu τ of en k = Z → VV G (AA G) p l e { frames := 3, cells := 0, slots := 0, locals := 63 } s m args below meth c 0 0 (MQ below (QC G h (some (.int Z))) args s 0 0 (AA G)) 4 h 6 [(0, .ref (gA G g 0)), (1, .int of), (2, .int en), (3, .int k)] [] := by
  intro fu
  induction fu with
  | zero =>
    intro en k  hm
    exact absurd hm (Nat.not_lt_zero _)
  | succ fu ih =>
    intro en k  hm hZ
    have hG := X.2.2.2.2.2.1
    refine q_iload_n X 3 dX8_afterToken_6 rfl ?_
    refine q_bipush (v := 100) X dX8_afterToken_7 (by decide) ?_
    refine q_icmp_ge (tgt := 37) X dX8_afterToken_9 (by decide) (fun c1 => ?_) (fun c1 => ?_)
    · skip
      refine q_iload_n X 2 dX8_afterToken_37 rfl ?_
      have E : Z = en := by exact hZ.symm.trans ((if_pos c1).trans rfl)
      exact q_iret X hret dX8_afterToken_38 (by rw [E]) rfl
    · skip
      refine q_aload_n X 0 dX8_afterToken_12 rfl ?_
      refine q_iload_n X 1 dX8_afterToken_13 rfl ?_
      refine q_callV (h1 := _) (rest := []) (As := [.int of]) X (c_X8_isDigit (l := l) hG (τ := τ)  of hT_g (hr_g)) mf_X8_isDigit mv_X8_isDigit cf_X8 rfl (ac_6_0 hT_g) lk_X8_35 rfl ⟨by decide, by decide⟩ ⟨Nat.le_refl _, Nat.le_refl _⟩ rfl (Nat.le_of_ble_eq_true rfl) dX8_afterToken_14 (st2 := [.int (S_X8_isDigit τ of)]) rfl ?_
      refine q_if_eq (tgt := 37) X dX8_afterToken_17 (by decide) (fun c2 => ?_) (fun c2 => ?_)
      · skip
        refine q_iload_n X 2 dX8_afterToken_37 rfl ?_
        have E : Z = en := by exact hZ.symm.trans ((if_neg c1).trans ((if_pos c2).trans rfl))
        exact q_iret X hret dX8_afterToken_38 (by rw [E]) rfl
      · skip
        refine q_aload_n X 0 dX8_afterToken_20 rfl ?_
        refine q_iload_n X 2 dX8_afterToken_21 rfl ?_
        refine q_callV (h1 := _) (rest := []) (As := [.int en]) X (c_X8_isDigit (l := l) hG (τ := τ)  en hT_g (hr_g)) mf_X8_isDigit mv_X8_isDigit cf_X8 rfl (ac_6_0 hT_g) lk_X8_35 rfl ⟨by decide, by decide⟩ ⟨Nat.le_refl _, Nat.le_refl _⟩ rfl (Nat.le_of_ble_eq_true rfl) dX8_afterToken_22 (st2 := [.int (S_X8_isDigit τ en)]) rfl ?_
        refine q_if_eq (tgt := 37) X dX8_afterToken_25 (by decide) (fun c3 => ?_) (fun c3 => ?_)
        · skip
          refine q_iload_n X 2 dX8_afterToken_37 rfl ?_
          have E : Z = en := by exact hZ.symm.trans ((if_neg c1).trans ((if_neg c2).trans ((if_pos c3).trans rfl)))
          exact q_iret X hret dX8_afterToken_38 (by rw [E]) rfl
        · skip
          refine q_iinc (v := en + 1) (lv' := [(2, .int (en + 1)), (0, .ref (gA G g 0)), (1, .int of), (3, .int k)]) X 2 dX8_afterToken_28 rfl rfl (by decide) rfl ?_
          refine q_iinc (v := k + 1) (lv' := [(3, .int (k + 1)), (2, .int (en + 1)), (0, .ref (gA G g 0)), (1, .int of)]) X 3 dX8_afterToken_31 rfl rfl (by decide) rfl ?_
          refine q_goto (tgt := 6) X dX8_afterToken_34 (by decide) ?_
          refine q_sub (lv2 := [(0, .ref (gA G g 0)), (1, .int of), (2, .int (en + 1)), (3, .int (k + 1))]) [2, 3, 1, 0] rfl ?_
          have E : L_X8_afterToken_6 fu τ of (en + 1) (k + 1) = Z := Eq.trans (Eq.symm (by exact (if_neg c1).trans ((if_neg c2).trans ((if_neg c3).trans rfl)))) hZ
          exact ih (en + 1) (k + 1)  (by exact ms_up c1 hm) E
set_option maxRecDepth 100000 in
set_option maxHeartbeats 4000000 in
theorem c_X8_afterToken {G : Geo} {l : Launch} (hG : GOK G) {g : Nat} {h : Hp} {τ : Nat → Int32} (of : Int32) (hT_g : gT G g = 6) (hr_g : h g = τ) : CM G l yX8_afterToken cX8_afterToken 4 (some .int) 3 63 [.ref (gA G g 0), .int of] h h (some (.int (S_X8_afterToken τ of))) := by
  obtain ⟨Z, hZ⟩ : ∃ Z, S_X8_afterToken τ of = Z := ⟨_, rfl⟩
  rw [hZ]
  refine q_enter hG mf_X8_afterToken (Nat.le_of_ble_eq_true rfl) ?_
  intro p e s m below meth c X hret
  refine q_lv (lv2 := [(0, .ref (gA G g 0)), (1, .int of)]) rfl ?_
  refine q_iload_n X 1 dX8_afterToken_0 rfl ?_
  refine q_iconst (v := 1) X dX8_afterToken_1 (by decide) ?_
  refine q_iadd X dX8_afterToken_2 ?_
  refine q_istore_n (lv' := [(2, .int (of + 1)), (0, .ref (gA G g 0)), (1, .int of)]) X dX8_afterToken_3 (by decide) rfl ?_
  refine q_iconst (v := 0) X dX8_afterToken_4 (by decide) ?_
  refine q_istore_n (lv' := [(3, .int 0), (2, .int (of + 1)), (0, .ref (gA G g 0)), (1, .int of)]) X dX8_afterToken_5 (by decide) rfl ?_
  refine q_sub (lv2 := [(0, .ref (gA G g 0)), (1, .int of), (2, .int (of + 1)), (3, .int 0)]) [2, 3, 1, 0] rfl ?_
  have E : L_X8_afterToken_6 101 τ of (of + 1) 0 = Z := Eq.trans (Eq.symm (by exact rfl)) hZ
  exact w_X8_afterToken_6 X hret hT_g hr_g Z 101 (of + 1) 0  (by decide) E
def L_X8_numberIn_32 (fu : Nat) (τ : Nat → Int32) (sa : Int32) (en : Int32) (nu : Int32) (k : Int32) : Int32 := match fu with
  | 0 => 0
  | fu + 1 => if en ≤ k then (nu) else (L_X8_numberIn_32 fu τ sa en (S_J9_min_7cf53 (((nu * 10) + (S_X8_character τ k)) - 48) 100000) (k + 1))
def S_X8_numberIn (τ : Nat → Int32) (sa : Int32) (en : Int32) : Int32 := if (S_X8_isDigit τ sa) = 0 then ((-1)) else (if (S_X8_character τ sa) = 48 then (if en ≤ (sa + 1) then (L_X8_numberIn_32 ((en.toInt - sa.toInt).toNat + 1) τ sa en 0 sa) else ((-1))) else (L_X8_numberIn_32 ((en.toInt - sa.toInt).toNat + 1) τ sa en 0 sa))
set_option maxRecDepth 100000 in
set_option maxHeartbeats 4000000 in
theorem w_X8_numberIn_32 {G : Geo} {p : Program} {l : Launch} {e : Env} {s : State} {m : MethodId} {args : Array Value} {below : List Frame} {meth : Method} {c : Code} {h : Hp} {g : Nat} {τ : Nat → Int32} {sa : Int32} {en : Int32} (X : CX G (AA G) p s m meth c RX8 cX8_numberIn 5) (hret : meth.sig.returnType = (some .int)) (hT_g : gT G g = 6) (hr_g : h g = τ) (Z : Int32) : ∀ (fu : Nat) (nu : Int32) (k : Int32), (en.toInt - k.toInt).toNat < fu → L_X8_numberIn_32 fu τ sa en nu k = Z → VV G (AA G) p l e { frames := 3, cells := 0, slots := 0, locals := 63 } s m args below meth c 0 0 (MQ below (QC G h (some (.int Z))) args s 0 0 (AA G)) 5 h 32 [(0, .ref (gA G g 0)), (1, .int sa), (2, .int en), (3, .int nu), (4, .int k)] [] := by
  intro fu
  induction fu with
  | zero =>
    intro nu k  hm
    exact absurd hm (Nat.not_lt_zero _)
  | succ fu ih =>
    intro nu k  hm hZ
    have hG := X.2.2.2.2.2.1
    refine q_iload X 4 dX8_numberIn_32 rfl ?_
    refine q_iload_n X 2 dX8_numberIn_34 rfl ?_
    refine q_icmp_ge (tgt := 64) X dX8_numberIn_35 (by decide) (fun c4 => ?_) (fun c4 => ?_)
    · skip
      refine q_iload_n X 3 dX8_numberIn_64 rfl ?_
      have E : Z = nu := by exact hZ.symm.trans ((if_pos c4).trans rfl)
      exact q_iret X hret dX8_numberIn_65 (by rw [E]) rfl
    · skip
      refine q_iload_n X 3 dX8_numberIn_38 rfl ?_
      refine q_bipush (v := 10) X dX8_numberIn_39 (by decide) ?_
      refine q_imul X dX8_numberIn_41 ?_
      refine q_aload_n X 0 dX8_numberIn_42 rfl ?_
      refine q_iload X 4 dX8_numberIn_43 rfl ?_
      refine q_callV (h1 := _) (rest := [.int (nu * 10)]) (As := [.int k]) X (c_X8_character (l := l) hG (τ := τ)  k hT_g (hr_g)) mf_X8_character mv_X8_character cf_X8 rfl (ac_6_0 hT_g) lk_X8_27 rfl ⟨by decide, by decide⟩ ⟨Nat.le_refl _, Nat.le_refl _⟩ rfl (Nat.le_of_ble_eq_true rfl) dX8_numberIn_45 (st2 := [.int (S_X8_character τ k), .int (nu * 10)]) rfl ?_
      refine q_iadd X dX8_numberIn_48 ?_
      refine q_bipush (v := 48) X dX8_numberIn_49 (by decide) ?_
      refine q_isub X dX8_numberIn_51 ?_
      refine q_ldc X kc_X8_39 dX8_numberIn_52 ?_
      refine q_callS (h1 := _) (rest := []) (As := [.int (((nu * 10) + (S_X8_character τ k)) - 48), .int 100000]) X (c_J9_min_7cf53 (l := l) hG   (((nu * 10) + (S_X8_character τ k)) - 48) 100000 ) mf_J9_min_7cf53 ms_J9_min_7cf53 lk_X8_40 rfl ⟨by decide, by decide⟩ ⟨Nat.le_refl _, Nat.le_refl _⟩ rfl (Nat.le_of_ble_eq_true rfl) dX8_numberIn_54 (st2 := [.int (S_J9_min_7cf53 (((nu * 10) + (S_X8_character τ k)) - 48) 100000)]) rfl ?_
      refine q_istore_n (lv' := [(3, .int (S_J9_min_7cf53 (((nu * 10) + (S_X8_character τ k)) - 48) 100000)), (0, .ref (gA G g 0)), (1, .int sa), (2, .int en), (4, .int k)]) X dX8_numberIn_57 (by decide) rfl ?_
      refine q_iinc (v := k + 1) (lv' := [(4, .int (k + 1)), (3, .int (S_J9_min_7cf53 (((nu * 10) + (S_X8_character τ k)) - 48) 100000)), (0, .ref (gA G g 0)), (1, .int sa), (2, .int en)]) X 4 dX8_numberIn_58 rfl rfl (by decide) rfl ?_
      refine q_goto (tgt := 32) X dX8_numberIn_61 (by decide) ?_
      refine q_sub (lv2 := [(0, .ref (gA G g 0)), (1, .int sa), (2, .int en), (3, .int (S_J9_min_7cf53 (((nu * 10) + (S_X8_character τ k)) - 48) 100000)), (4, .int (k + 1))]) [2, 3, 4, 1, 0] rfl ?_
      have E : L_X8_numberIn_32 fu τ sa en (S_J9_min_7cf53 (((nu * 10) + (S_X8_character τ k)) - 48) 100000) (k + 1) = Z := Eq.trans (Eq.symm (by exact (if_neg c4).trans rfl)) hZ
      exact ih (S_J9_min_7cf53 (((nu * 10) + (S_X8_character τ k)) - 48) 100000) (k + 1)  (by exact ms_up c4 hm) E
set_option maxRecDepth 100000 in
set_option maxHeartbeats 4000000 in
theorem c_X8_numberIn {G : Geo} {l : Launch} (hG : GOK G) {g : Nat} {h : Hp} {τ : Nat → Int32} (sa : Int32) (en : Int32) (hT_g : gT G g = 6) (hr_g : h g = τ) : CM G l yX8_numberIn cX8_numberIn 5 (some .int) 3 63 [.ref (gA G g 0), .int sa, .int en] h h (some (.int (S_X8_numberIn τ sa en))) := by
  obtain ⟨Z, hZ⟩ : ∃ Z, S_X8_numberIn τ sa en = Z := ⟨_, rfl⟩
  rw [hZ]
  refine q_enter hG mf_X8_numberIn (Nat.le_of_ble_eq_true rfl) ?_
  intro p e s m below meth c X hret
  refine q_lv (lv2 := [(0, .ref (gA G g 0)), (1, .int sa), (2, .int en)]) rfl ?_
  refine q_aload_n X 0 dX8_numberIn_0 rfl ?_
  refine q_iload_n X 1 dX8_numberIn_1 rfl ?_
  refine q_callV (h1 := _) (rest := []) (As := [.int sa]) X (c_X8_isDigit (l := l) hG (τ := τ)  sa hT_g (hr_g)) mf_X8_isDigit mv_X8_isDigit cf_X8 rfl (ac_6_0 hT_g) lk_X8_35 rfl ⟨by decide, by decide⟩ ⟨Nat.le_refl _, Nat.le_refl _⟩ rfl (Nat.le_of_ble_eq_true rfl) dX8_numberIn_2 (st2 := [.int (S_X8_isDigit τ sa)]) rfl ?_
  refine q_if_eq (tgt := 25) X dX8_numberIn_5 (by decide) (fun c1 => ?_) (fun c1 => ?_)
  · skip
    refine q_iconst (v := (-1)) X dX8_numberIn_25 (by decide) ?_
    have E : Z = (-1) := by exact hZ.symm.trans ((if_pos c1).trans rfl)
    exact q_iret X hret dX8_numberIn_26 (by rw [E]) rfl
  · skip
    refine q_aload_n X 0 dX8_numberIn_8 rfl ?_
    refine q_iload_n X 1 dX8_numberIn_9 rfl ?_
    refine q_callV (h1 := _) (rest := []) (As := [.int sa]) X (c_X8_character (l := l) hG (τ := τ)  sa hT_g (hr_g)) mf_X8_character mv_X8_character cf_X8 rfl (ac_6_0 hT_g) lk_X8_27 rfl ⟨by decide, by decide⟩ ⟨Nat.le_refl _, Nat.le_refl _⟩ rfl (Nat.le_of_ble_eq_true rfl) dX8_numberIn_10 (st2 := [.int (S_X8_character τ sa)]) rfl ?_
    refine q_bipush (v := 48) X dX8_numberIn_13 (by decide) ?_
    refine q_icmp_ne (tgt := 27) X dX8_numberIn_15 (by decide) (fun c2 => ?_) (fun c2 => ?_)
    · skip
      refine q_iconst (v := 0) X dX8_numberIn_27 (by decide) ?_
      refine q_istore_n (lv' := [(3, .int 0), (0, .ref (gA G g 0)), (1, .int sa), (2, .int en)]) X dX8_numberIn_28 (by decide) rfl ?_
      refine q_iload_n X 2 dX8_numberIn_29 rfl ?_
      refine q_istore (lv' := [(4, .int sa), (3, .int 0), (0, .ref (gA G g 0)), (1, .int sa), (2, .int en)]) X dX8_numberIn_30 (by decide) rfl ?_
      refine q_sub (lv2 := [(0, .ref (gA G g 0)), (1, .int sa), (2, .int en), (3, .int 0), (4, .int sa)]) [2, 3, 4, 1, 0] rfl ?_
      have E : L_X8_numberIn_32 ((en.toInt - sa.toInt).toNat + 1) τ sa en 0 sa = Z := Eq.trans (Eq.symm (by exact (if_neg c1).trans ((if_neg c2).trans rfl))) hZ
      exact w_X8_numberIn_32 X hret hT_g hr_g Z ((en.toInt - sa.toInt).toNat + 1) 0 sa  (by exact Nat.lt_succ_self _) E
    · skip
      refine q_iload_n X 2 dX8_numberIn_18 rfl ?_
      refine q_iload_n X 1 dX8_numberIn_19 rfl ?_
      refine q_iconst (v := 1) X dX8_numberIn_20 (by decide) ?_
      refine q_iadd X dX8_numberIn_21 ?_
      refine q_icmp_le (tgt := 27) X dX8_numberIn_22 (by decide) (fun c3 => ?_) (fun c3 => ?_)
      · skip
        refine q_iconst (v := 0) X dX8_numberIn_27 (by decide) ?_
        refine q_istore_n (lv' := [(3, .int 0), (0, .ref (gA G g 0)), (1, .int sa), (2, .int en)]) X dX8_numberIn_28 (by decide) rfl ?_
        refine q_iload_n X 2 dX8_numberIn_29 rfl ?_
        refine q_istore (lv' := [(4, .int sa), (3, .int 0), (0, .ref (gA G g 0)), (1, .int sa), (2, .int en)]) X dX8_numberIn_30 (by decide) rfl ?_
        refine q_sub (lv2 := [(0, .ref (gA G g 0)), (1, .int sa), (2, .int en), (3, .int 0), (4, .int sa)]) [2, 3, 4, 1, 0] rfl ?_
        have E : L_X8_numberIn_32 ((en.toInt - sa.toInt).toNat + 1) τ sa en 0 sa = Z := Eq.trans (Eq.symm (by exact (if_neg c1).trans ((if_pos c2).trans ((if_pos c3).trans rfl)))) hZ
        exact w_X8_numberIn_32 X hret hT_g hr_g Z ((en.toInt - sa.toInt).toNat + 1) 0 sa  (by exact Nat.lt_succ_self _) E
      · skip
        refine q_iconst (v := (-1)) X dX8_numberIn_25 (by decide) ?_
        have E : Z = (-1) := by exact hZ.symm.trans ((if_neg c1).trans ((if_pos c2).trans ((if_neg c3).trans rfl)))
        exact q_iret X hret dX8_numberIn_26 (by rw [E]) rfl
def S_X2_copyFrom (ρ : Nat → Int32) (ρ2 : Nat → Int32) : (Nat → Int32) := let r1 : Nat → Int32 := S_copy ρ2 ρ 2 1 48; let r2 : Nat → Int32 := va_up r1 1 (ρ2 1); let r3 : Nat → Int32 := va_up r2 0 (ρ2 0); r3
set_option maxRecDepth 100000 in
set_option maxHeartbeats 4000000 in
theorem c_X2_copyFrom {G : Geo} {l : Launch} (hG : GOK G) {g g2 : Nat} {h : Hp} {ρ : Nat → Int32} {ρ2 : Nat → Int32} (hT_g : gT G g = 5) (hT_g2 : gT G g2 = 5) (hr_g : h g = ρ) (hr_g2 : h g2 = ρ2) (hne : g2 ≠ g) : CM G l yX2_copyFrom cX2_copyFrom 2 none 2 81 [.ref (gA G g 0), .ref (gA G g2 0)] h (va_up h g (S_X2_copyFrom ρ ρ2)) none := by
  obtain ⟨Z, hZ⟩ : ∃ Z, S_X2_copyFrom ρ ρ2 = Z := ⟨_, rfl⟩
  rw [hZ]
  refine q_enter hG mf_X2_copyFrom (Nat.le_of_ble_eq_true rfl) ?_
  intro p e s m below meth c X hret
  refine q_lv (lv2 := [(0, .ref (gA G g 0)), (1, .ref (gA G g2 0))]) rfl ?_
  refine q_aload_n X 1 dX2_copyFrom_0 rfl ?_
  refine q_get (fk := 0) (v := .ref (gA G g2 1)) X cf_X2 (ac_5_0 hT_g2) (by decide) fl_X2_9 rfl rfl dX2_copyFrom_1 rfl ?_
  refine q_aload_n X 0 dX2_copyFrom_4 rfl ?_
  refine q_get (fk := 0) (v := .ref (gA G g 1)) X cf_X2 (ac_5_0 hT_g) (by decide) fl_X2_9 rfl rfl dX2_copyFrom_5 rfl ?_
  obtain ⟨r1, e_r1⟩ : ∃ z : Nat → Int32, z = S_copy ρ2 ρ 2 1 48 := ⟨_, rfl⟩
  refine q_callSN (h1 := _) (rest := []) (As := [.ref (gA G g2 1), .ref (gA G g 1)]) X (c_X9_copyRow (l := l) hG (n := 48) (frm := ρ2) (row := ρ) (ac_5_1 hT_g2) (ac_5_1 hT_g) (hr_g2) (hr_g) (by rw [hT_g2]; rfl) (by rw [hT_g]; rfl)) mf_X9_copyRow ms_X9_copyRow ln_X2_22 rfl ⟨by decide, by decide⟩ ⟨Nat.le_refl _, Nat.le_refl _⟩ rfl (Nat.le_of_ble_eq_true rfl) dX2_copyFrom_8 (st2 := []) rfl ?_
  refine q_eq (h2 := va_up h g r1) (by rw [e_r1]) rfl ?_
  refine q_aload_n X 0 dX2_copyFrom_11 rfl ?_
  refine q_aload_n X 1 dX2_copyFrom_12 rfl ?_
  refine q_geti (fk := 1) (x := ρ2 1) X cf_X2 (ac_5_0 hT_g2) (by decide) fl_X2_15 rfl rfl dX2_copyFrom_13 ((va_up_ne _ _ hne).trans (hr_g2)) rfl ?_
  obtain ⟨r2, e_r2⟩ : ∃ z : Nat → Int32, z = va_up r1 1 (ρ2 1) := ⟨_, rfl⟩
  refine q_put (fk := 1) (h2 := va_up h g r2) X cf_X2 (ac_5_0 hT_g) (by decide) fl_X2_15 rfl rfl (by rw [hT_g]; rfl) rfl rfl rfl dX2_copyFrom_16 (va_up_self _ _ _) (by rw [e_r2, va_up_up]) ?_
  refine q_aload_n X 0 dX2_copyFrom_19 rfl ?_
  refine q_aload_n X 1 dX2_copyFrom_20 rfl ?_
  refine q_geti (fk := 2) (x := ρ2 0) X cf_X2 (ac_5_0 hT_g2) (by decide) fl_X2_19 rfl rfl dX2_copyFrom_21 ((va_up_ne _ _ hne).trans (hr_g2)) rfl ?_
  obtain ⟨r3, e_r3⟩ : ∃ z : Nat → Int32, z = va_up r2 0 (ρ2 0) := ⟨_, rfl⟩
  refine q_put (fk := 2) (h2 := va_up h g r3) X cf_X2 (ac_5_0 hT_g) (by decide) fl_X2_19 rfl rfl (by rw [hT_g]; rfl) rfl rfl rfl dX2_copyFrom_24 (va_up_self _ _ _) (by rw [e_r3, va_up_up]) ?_
  have E : Z = r3 := by subst e_r3; subst e_r2; subst e_r1; exact hZ.symm.trans (rfl)
  exact q_vret X hret dX2_copyFrom_27 rfl (by rw [E])
def S_X2_property (ρ : Nat → Int32) (ix : Int32) (wh : Int32) : Int32 := S_at ρ 2 1 48 ((ix * 6) + wh)
set_option maxRecDepth 100000 in
set_option maxHeartbeats 4000000 in
theorem c_X2_property {G : Geo} {l : Launch} (hG : GOK G) {g : Nat} {h : Hp} {ρ : Nat → Int32} (ix : Int32) (wh : Int32) (hT_g : gT G g = 5) (hr_g : h g = ρ) : CM G l yX2_property cX2_property 3 (some .int) 1 21 [.ref (gA G g 0), .int ix, .int wh] h h (some (.int (S_X2_property ρ ix wh))) := by
  obtain ⟨Z, hZ⟩ : ∃ Z, S_X2_property ρ ix wh = Z := ⟨_, rfl⟩
  rw [hZ]
  refine q_enter hG mf_X2_property (Nat.le_of_ble_eq_true rfl) ?_
  intro p e s m below meth c X hret
  refine q_lv (lv2 := [(0, .ref (gA G g 0)), (1, .int ix), (2, .int wh)]) rfl ?_
  refine q_aload_n X 0 dX2_property_0 rfl ?_
  refine q_get (fk := 0) (v := .ref (gA G g 1)) X cf_X2 (ac_5_0 hT_g) (by decide) fl_X2_9 rfl rfl dX2_property_1 rfl ?_
  refine q_iload_n X 1 dX2_property_4 rfl ?_
  refine q_bipush (v := 6) X dX2_property_5 (by decide) ?_
  refine q_imul X dX2_property_7 ?_
  refine q_iload_n X 2 dX2_property_8 rfl ?_
  refine q_iadd X dX2_property_9 ?_
  refine q_callSN (h1 := _) (rest := []) (As := [.ref (gA G g 1), .int ((ix * 6) + wh)]) X (c_X9_at (l := l) hG (n := 48) (row := ρ) ((ix * 6) + wh) (ac_5_1 hT_g) (hr_g) (by rw [hT_g]; rfl)) mf_X9_at ms_X9_at ln_X2_26 rfl ⟨by decide, by decide⟩ ⟨Nat.le_refl _, Nat.le_refl _⟩ rfl (Nat.le_of_ble_eq_true rfl) dX2_property_10 (st2 := [.int (S_at ρ 2 1 48 ((ix * 6) + wh))]) rfl ?_
  have E : Z = S_at ρ 2 1 48 ((ix * 6) + wh) := by exact hZ.symm.trans (rfl)
  exact q_iret X hret dX2_property_13 (by rw [E]) rfl
def L_X2_enter_8 (fu : Nat) (ρ : Nat → Int32) (ρ2 : Nat → Int32) (k : Int32) (ρ1 : Nat → Int32) : (Nat → Int32) := match fu with
  | 0 => (fun _ => 0)
  | fu + 1 => if k < 6 then (let r2 : Nat → Int32 := va_up ρ1 0 ((ρ1 0) + 1); let r3 : Nat → Int32 := va_up r2 1 (S_J9_min_7cf53 ((r2 1) + 1) 8); let r4 : Nat → Int32 := S_put r3 2 1 48 0 (r3 0); let r5 : Nat → Int32 := S_put r4 2 1 48 1 (ρ2 18); let r6 : Nat → Int32 := S_put r5 2 1 48 2 (ρ2 23); let r7 : Nat → Int32 := S_put r6 2 1 48 3 (ρ2 24); let r8 : Nat → Int32 := S_put r7 2 1 48 4 (ρ2 19); let r9 : Nat → Int32 := S_put r8 2 1 48 5 (ρ2 25); r9) else (let r10 : Nat → Int32 := S_put ρ1 2 1 48 k (S_at ρ1 2 1 48 (k - 6)); L_X2_enter_8 fu ρ ρ2 (k + (-1)) r10)
def S_X2_enter (ρ : Nat → Int32) (ρ2 : Nat → Int32) : (Nat → Int32) := L_X2_enter_8 43 ρ ρ2 (48 - 1) ρ
set_option maxRecDepth 100000 in
set_option maxHeartbeats 4000000 in
theorem w_X2_enter_8 {G : Geo} {p : Program} {l : Launch} {e : Env} {s : State} {m : MethodId} {args : Array Value} {below : List Frame} {meth : Method} {c : Code} {h : Hp} {g g2 : Nat} {ρ : Nat → Int32} {ρ2 : Nat → Int32} (X : CX G (AA G) p s m meth c RX2 cX2_enter 3) (hret : meth.sig.returnType = none) (hT_g : gT G g = 5) (hT_g2 : gT G g2 = 2) (hr_g : h g = ρ) (hr_g2 : h g2 = ρ2) (Z : (Nat → Int32)) : ∀ (fu : Nat) (k : Int32) (ρ1 : Nat → Int32), (k.toInt - (5 : Int32).toInt).toNat < fu → L_X2_enter_8 fu ρ ρ2 k ρ1 = Z → VV G (AA G) p l e { frames := 1, cells := 0, slots := 0, locals := 22 } s m args below meth c 0 0 (MQ below (QC G (va_up h g Z) none) args s 0 0 (AA G)) 3 (va_up h g ρ1) 8 [(0, .ref (gA G g 0)), (1, .ref (gA G g2 2)), (2, .int k)] [] := by
  intro fu
  induction fu with
  | zero =>
    intro k ρ1  hm
    exact absurd hm (Nat.not_lt_zero _)
  | succ fu ih =>
    intro k ρ1  hm hZ
    have hG := X.2.2.2.2.2.1
    refine q_iload_n X 2 dX2_enter_8 rfl ?_
    refine q_bipush (v := 6) X dX2_enter_9 (by decide) ?_
    refine q_icmp_lt (tgt := 39) X dX2_enter_11 (by decide) (fun c1 => ?_) (fun c1 => ?_)
    · skip
      refine q_aload_n X 0 dX2_enter_39 rfl ?_
      refine q_dup X dX2_enter_40 rfl ?_
      refine q_geti (fk := 2) (x := ρ1 0) X cf_X2 (ac_5_0 hT_g) (by decide) fl_X2_19 rfl rfl dX2_enter_41 (va_up_self _ _ _) rfl ?_
      refine q_iconst (v := 1) X dX2_enter_44 (by decide) ?_
      refine q_iadd X dX2_enter_45 ?_
      obtain ⟨r2, e_r2⟩ : ∃ z : Nat → Int32, z = va_up ρ1 0 ((ρ1 0) + 1) := ⟨_, rfl⟩
      refine q_put (fk := 2) (h2 := va_up h g r2) X cf_X2 (ac_5_0 hT_g) (by decide) fl_X2_19 rfl rfl (by rw [hT_g]; rfl) rfl rfl rfl dX2_enter_46 (va_up_self _ _ _) (by rw [e_r2, va_up_up]) ?_
      refine q_aload_n X 0 dX2_enter_49 rfl ?_
      refine q_aload_n X 0 dX2_enter_50 rfl ?_
      refine q_geti (fk := 1) (x := r2 1) X cf_X2 (ac_5_0 hT_g) (by decide) fl_X2_15 rfl rfl dX2_enter_51 (va_up_self _ _ _) rfl ?_
      refine q_iconst (v := 1) X dX2_enter_54 (by decide) ?_
      refine q_iadd X dX2_enter_55 ?_
      refine q_bipush (v := 8) X dX2_enter_56 (by decide) ?_
      refine q_callS (h1 := _) (rest := [.ref (gA G g 0)]) (As := [.int ((r2 1) + 1), .int 8]) X (c_J9_min_7cf53 (l := l) hG   ((r2 1) + 1) 8 ) mf_J9_min_7cf53 ms_J9_min_7cf53 lk_X2_34 rfl ⟨by decide, by decide⟩ ⟨Nat.le_refl _, Nat.le_refl _⟩ rfl (Nat.le_of_ble_eq_true rfl) dX2_enter_58 (st2 := [.int (S_J9_min_7cf53 ((r2 1) + 1) 8), .ref (gA G g 0)]) rfl ?_
      obtain ⟨r3, e_r3⟩ : ∃ z : Nat → Int32, z = va_up r2 1 (S_J9_min_7cf53 ((r2 1) + 1) 8) := ⟨_, rfl⟩
      refine q_put (fk := 1) (h2 := va_up h g r3) X cf_X2 (ac_5_0 hT_g) (by decide) fl_X2_15 rfl rfl (by rw [hT_g]; rfl) rfl rfl rfl dX2_enter_61 (va_up_self _ _ _) (by rw [e_r3, va_up_up]) ?_
      refine q_aload_n X 0 dX2_enter_64 rfl ?_
      refine q_get (fk := 0) (v := .ref (gA G g 1)) X cf_X2 (ac_5_0 hT_g) (by decide) fl_X2_9 rfl rfl dX2_enter_65 rfl ?_
      refine q_iconst (v := 0) X dX2_enter_68 (by decide) ?_
      refine q_aload_n X 0 dX2_enter_69 rfl ?_
      refine q_geti (fk := 2) (x := r3 0) X cf_X2 (ac_5_0 hT_g) (by decide) fl_X2_19 rfl rfl dX2_enter_70 (va_up_self _ _ _) rfl ?_
      obtain ⟨r4, e_r4⟩ : ∃ z : Nat → Int32, z = S_put r3 2 1 48 0 (r3 0) := ⟨_, rfl⟩
      refine q_callSN (h1 := _) (rest := []) (As := [.ref (gA G g 1), .int 0, .int (r3 0)]) X (c_X9_put (l := l) hG (n := 48) (row := r3) 0 (r3 0) (ac_5_1 hT_g) (va_up_self _ _ _) (by rw [hT_g]; rfl)) mf_X9_put ms_X9_put ln_X2_30 rfl ⟨by decide, by decide⟩ ⟨Nat.le_refl _, Nat.le_refl _⟩ rfl (Nat.le_of_ble_eq_true rfl) dX2_enter_73 (st2 := []) rfl ?_
      refine q_eq (h2 := va_up h g r4) (by rw [e_r4]; exact va_up_up _ _ _ _) rfl ?_
      refine q_aload_n X 0 dX2_enter_76 rfl ?_
      refine q_get (fk := 0) (v := .ref (gA G g 1)) X cf_X2 (ac_5_0 hT_g) (by decide) fl_X2_9 rfl rfl dX2_enter_77 rfl ?_
      refine q_iconst (v := 1) X dX2_enter_80 (by decide) ?_
      refine q_aload_n X 1 dX2_enter_81 rfl ?_
      refine q_geti (fk := 2) (x := ρ2 18) X cf_X0 (ac_2_2 hT_g2) (by decide) fl_X2_40 rfl rfl dX2_enter_82 ((va_up_ne _ _ (ne_ty hT_g2 hT_g (by decide))).trans (hr_g2)) rfl ?_
      obtain ⟨r5, e_r5⟩ : ∃ z : Nat → Int32, z = S_put r4 2 1 48 1 (ρ2 18) := ⟨_, rfl⟩
      refine q_callSN (h1 := _) (rest := []) (As := [.ref (gA G g 1), .int 1, .int (ρ2 18)]) X (c_X9_put (l := l) hG (n := 48) (row := r4) 1 (ρ2 18) (ac_5_1 hT_g) (va_up_self _ _ _) (by rw [hT_g]; rfl)) mf_X9_put ms_X9_put ln_X2_30 rfl ⟨by decide, by decide⟩ ⟨Nat.le_refl _, Nat.le_refl _⟩ rfl (Nat.le_of_ble_eq_true rfl) dX2_enter_85 (st2 := []) rfl ?_
      refine q_eq (h2 := va_up h g r5) (by rw [e_r5]; exact va_up_up _ _ _ _) rfl ?_
      refine q_aload_n X 0 dX2_enter_88 rfl ?_
      refine q_get (fk := 0) (v := .ref (gA G g 1)) X cf_X2 (ac_5_0 hT_g) (by decide) fl_X2_9 rfl rfl dX2_enter_89 rfl ?_
      refine q_iconst (v := 2) X dX2_enter_92 (by decide) ?_
      refine q_aload_n X 1 dX2_enter_93 rfl ?_
      refine q_geti (fk := 6) (x := ρ2 23) X cf_X0 (ac_2_2 hT_g2) (by decide) fl_X2_45 rfl rfl dX2_enter_94 ((va_up_ne _ _ (ne_ty hT_g2 hT_g (by decide))).trans (hr_g2)) rfl ?_
      obtain ⟨r6, e_r6⟩ : ∃ z : Nat → Int32, z = S_put r5 2 1 48 2 (ρ2 23) := ⟨_, rfl⟩
      refine q_callSN (h1 := _) (rest := []) (As := [.ref (gA G g 1), .int 2, .int (ρ2 23)]) X (c_X9_put (l := l) hG (n := 48) (row := r5) 2 (ρ2 23) (ac_5_1 hT_g) (va_up_self _ _ _) (by rw [hT_g]; rfl)) mf_X9_put ms_X9_put ln_X2_30 rfl ⟨by decide, by decide⟩ ⟨Nat.le_refl _, Nat.le_refl _⟩ rfl (Nat.le_of_ble_eq_true rfl) dX2_enter_97 (st2 := []) rfl ?_
      refine q_eq (h2 := va_up h g r6) (by rw [e_r6]; exact va_up_up _ _ _ _) rfl ?_
      refine q_aload_n X 0 dX2_enter_100 rfl ?_
      refine q_get (fk := 0) (v := .ref (gA G g 1)) X cf_X2 (ac_5_0 hT_g) (by decide) fl_X2_9 rfl rfl dX2_enter_101 rfl ?_
      refine q_iconst (v := 3) X dX2_enter_104 (by decide) ?_
      refine q_aload_n X 1 dX2_enter_105 rfl ?_
      refine q_geti (fk := 7) (x := ρ2 24) X cf_X0 (ac_2_2 hT_g2) (by decide) fl_X2_48 rfl rfl dX2_enter_106 ((va_up_ne _ _ (ne_ty hT_g2 hT_g (by decide))).trans (hr_g2)) rfl ?_
      obtain ⟨r7, e_r7⟩ : ∃ z : Nat → Int32, z = S_put r6 2 1 48 3 (ρ2 24) := ⟨_, rfl⟩
      refine q_callSN (h1 := _) (rest := []) (As := [.ref (gA G g 1), .int 3, .int (ρ2 24)]) X (c_X9_put (l := l) hG (n := 48) (row := r6) 3 (ρ2 24) (ac_5_1 hT_g) (va_up_self _ _ _) (by rw [hT_g]; rfl)) mf_X9_put ms_X9_put ln_X2_30 rfl ⟨by decide, by decide⟩ ⟨Nat.le_refl _, Nat.le_refl _⟩ rfl (Nat.le_of_ble_eq_true rfl) dX2_enter_109 (st2 := []) rfl ?_
      refine q_eq (h2 := va_up h g r7) (by rw [e_r7]; exact va_up_up _ _ _ _) rfl ?_
      refine q_aload_n X 0 dX2_enter_112 rfl ?_
      refine q_get (fk := 0) (v := .ref (gA G g 1)) X cf_X2 (ac_5_0 hT_g) (by decide) fl_X2_9 rfl rfl dX2_enter_113 rfl ?_
      refine q_iconst (v := 4) X dX2_enter_116 (by decide) ?_
      refine q_aload_n X 1 dX2_enter_117 rfl ?_
      refine q_geti (fk := 3) (x := ρ2 19) X cf_X0 (ac_2_2 hT_g2) (by decide) fl_X2_51 rfl rfl dX2_enter_118 ((va_up_ne _ _ (ne_ty hT_g2 hT_g (by decide))).trans (hr_g2)) rfl ?_
      obtain ⟨r8, e_r8⟩ : ∃ z : Nat → Int32, z = S_put r7 2 1 48 4 (ρ2 19) := ⟨_, rfl⟩
      refine q_callSN (h1 := _) (rest := []) (As := [.ref (gA G g 1), .int 4, .int (ρ2 19)]) X (c_X9_put (l := l) hG (n := 48) (row := r7) 4 (ρ2 19) (ac_5_1 hT_g) (va_up_self _ _ _) (by rw [hT_g]; rfl)) mf_X9_put ms_X9_put ln_X2_30 rfl ⟨by decide, by decide⟩ ⟨Nat.le_refl _, Nat.le_refl _⟩ rfl (Nat.le_of_ble_eq_true rfl) dX2_enter_121 (st2 := []) rfl ?_
      refine q_eq (h2 := va_up h g r8) (by rw [e_r8]; exact va_up_up _ _ _ _) rfl ?_
      refine q_aload_n X 0 dX2_enter_124 rfl ?_
      refine q_get (fk := 0) (v := .ref (gA G g 1)) X cf_X2 (ac_5_0 hT_g) (by decide) fl_X2_9 rfl rfl dX2_enter_125 rfl ?_
      refine q_iconst (v := 5) X dX2_enter_128 (by decide) ?_
      refine q_aload_n X 1 dX2_enter_129 rfl ?_
      refine q_geti (fk := 8) (x := ρ2 25) X cf_X0 (ac_2_2 hT_g2) (by decide) fl_X2_54 rfl rfl dX2_enter_130 ((va_up_ne _ _ (ne_ty hT_g2 hT_g (by decide))).trans (hr_g2)) rfl ?_
      obtain ⟨r9, e_r9⟩ : ∃ z : Nat → Int32, z = S_put r8 2 1 48 5 (ρ2 25) := ⟨_, rfl⟩
      refine q_callSN (h1 := _) (rest := []) (As := [.ref (gA G g 1), .int 5, .int (ρ2 25)]) X (c_X9_put (l := l) hG (n := 48) (row := r8) 5 (ρ2 25) (ac_5_1 hT_g) (va_up_self _ _ _) (by rw [hT_g]; rfl)) mf_X9_put ms_X9_put ln_X2_30 rfl ⟨by decide, by decide⟩ ⟨Nat.le_refl _, Nat.le_refl _⟩ rfl (Nat.le_of_ble_eq_true rfl) dX2_enter_133 (st2 := []) rfl ?_
      refine q_eq (h2 := va_up h g r9) (by rw [e_r9]; exact va_up_up _ _ _ _) rfl ?_
      have E : Z = r9 := by subst e_r9; subst e_r8; subst e_r7; subst e_r6; subst e_r5; subst e_r4; subst e_r3; subst e_r2; exact hZ.symm.trans ((if_pos c1).trans rfl)
      exact q_vret X hret dX2_enter_136 rfl (by rw [E])
    · skip
      refine q_aload_n X 0 dX2_enter_14 rfl ?_
      refine q_get (fk := 0) (v := .ref (gA G g 1)) X cf_X2 (ac_5_0 hT_g) (by decide) fl_X2_9 rfl rfl dX2_enter_15 rfl ?_
      refine q_iload_n X 2 dX2_enter_18 rfl ?_
      refine q_aload_n X 0 dX2_enter_19 rfl ?_
      refine q_get (fk := 0) (v := .ref (gA G g 1)) X cf_X2 (ac_5_0 hT_g) (by decide) fl_X2_9 rfl rfl dX2_enter_20 rfl ?_
      refine q_iload_n X 2 dX2_enter_23 rfl ?_
      refine q_bipush (v := 6) X dX2_enter_24 (by decide) ?_
      refine q_isub X dX2_enter_26 ?_
      refine q_callSN (h1 := _) (rest := [.int k, .ref (gA G g 1)]) (As := [.ref (gA G g 1), .int (k - 6)]) X (c_X9_at (l := l) hG (n := 48) (row := ρ1) (k - 6) (ac_5_1 hT_g) (va_up_self _ _ _) (by rw [hT_g]; rfl)) mf_X9_at ms_X9_at ln_X2_26 rfl ⟨by decide, by decide⟩ ⟨Nat.le_refl _, Nat.le_refl _⟩ rfl (Nat.le_of_ble_eq_true rfl) dX2_enter_27 (st2 := [.int (S_at ρ1 2 1 48 (k - 6)), .int k, .ref (gA G g 1)]) rfl ?_
      obtain ⟨r10, e_r10⟩ : ∃ z : Nat → Int32, z = S_put ρ1 2 1 48 k (S_at ρ1 2 1 48 (k - 6)) := ⟨_, rfl⟩
      refine q_callSN (h1 := _) (rest := []) (As := [.ref (gA G g 1), .int k, .int (S_at ρ1 2 1 48 (k - 6))]) X (c_X9_put (l := l) hG (n := 48) (row := ρ1) k (S_at ρ1 2 1 48 (k - 6)) (ac_5_1 hT_g) (va_up_self _ _ _) (by rw [hT_g]; rfl)) mf_X9_put ms_X9_put ln_X2_30 rfl ⟨by decide, by decide⟩ ⟨Nat.le_refl _, Nat.le_refl _⟩ rfl (Nat.le_of_ble_eq_true rfl) dX2_enter_30 (st2 := []) rfl ?_
      refine q_eq (h2 := va_up h g r10) (by rw [e_r10]; exact va_up_up _ _ _ _) rfl ?_
      refine q_iinc (v := k + (-1)) (lv' := [(2, .int (k + (-1))), (0, .ref (gA G g 0)), (1, .ref (gA G g2 2))]) X 2 dX2_enter_33 rfl rfl (by decide) rfl ?_
      refine q_goto (tgt := 8) X dX2_enter_36 (by decide) ?_
      refine q_sub (lv2 := [(0, .ref (gA G g 0)), (1, .ref (gA G g2 2)), (2, .int (k + (-1)))]) [1, 2, 0] rfl ?_
      have E : L_X2_enter_8 fu ρ ρ2 (k + (-1)) r10 = Z := Eq.trans (Eq.symm (by subst e_r10; exact (if_neg c1).trans rfl)) hZ
      exact ih (k + (-1)) r10  (by subst e_r10; exact ms_dn5 c1 hm) E
set_option maxRecDepth 100000 in
set_option maxHeartbeats 4000000 in
theorem c_X2_enter {G : Geo} {l : Launch} (hG : GOK G) {g g2 : Nat} {h : Hp} {ρ : Nat → Int32} {ρ2 : Nat → Int32} (hT_g : gT G g = 5) (hT_g2 : gT G g2 = 2) (hr_g : h g = ρ) (hr_g2 : h g2 = ρ2) : CM G l yX2_enter cX2_enter 3 none 1 22 [.ref (gA G g 0), .ref (gA G g2 2)] h (va_up h g (S_X2_enter ρ ρ2)) none := by
  obtain ⟨Z, hZ⟩ : ∃ Z, S_X2_enter ρ ρ2 = Z := ⟨_, rfl⟩
  rw [hZ]
  refine q_enter hG mf_X2_enter (Nat.le_of_ble_eq_true rfl) ?_
  intro p e s m below meth c X hret
  refine q_lv (lv2 := [(0, .ref (gA G g 0)), (1, .ref (gA G g2 2))]) rfl ?_
  refine q_aload_n X 0 dX2_enter_0 rfl ?_
  refine q_get (fk := 0) (v := .ref (gA G g 1)) X cf_X2 (ac_5_0 hT_g) (by decide) fl_X2_9 rfl rfl dX2_enter_1 rfl ?_
  refine q_alen (x := 48) X (ac_5_1 hT_g) dX2_enter_4 (by rw [hT_g]; rfl) ?_
  refine q_iconst (v := 1) X dX2_enter_5 (by decide) ?_
  refine q_isub X dX2_enter_6 ?_
  refine q_istore_n (lv' := [(2, .int (48 - 1)), (0, .ref (gA G g 0)), (1, .ref (gA G g2 2))]) X dX2_enter_7 (by decide) rfl ?_
  refine q_sub (lv2 := [(0, .ref (gA G g 0)), (1, .ref (gA G g2 2)), (2, .int (48 - 1))]) [1, 2, 0] rfl ?_
  refine q_eq (h2 := va_up h g ρ) (va_up_id2 (hr_g)).symm rfl ?_
  have E : L_X2_enter_8 43 ρ ρ2 (48 - 1) ρ = Z := Eq.trans (Eq.symm (by exact rfl)) hZ
  exact w_X2_enter_8 X hret hT_g hT_g2 hr_g hr_g2 Z 43 (48 - 1) ρ  (by decide) E
def L_X2_slope_17 (fu : Nat) (ρ : Nat → Int32) (wh : Int32) (nn : Int64) (sx : Int64) (sv : Int64) (sxv : Int64) (sxx : Int64) (k : Int32) : Int32 := match fu with
  | 0 => 0
  | fu + 1 => if 8 ≤ k then (if 0 ≤ (lg_cmp nn (2 : Int64)) then (Int64.toInt32 (S_X9_quotient ((100 : Int64) * ((nn * sxv) - (sx * sv))) ((nn * sxx) - (sx * sx)))) else ((-100009))) else (if (ρ 1) ≤ k then (if 0 ≤ (lg_cmp nn (2 : Int64)) then (Int64.toInt32 (S_X9_quotient ((100 : Int64) * ((nn * sxv) - (sx * sv))) ((nn * sxx) - (sx * sx)))) else ((-100009))) else (let m6 : Int64 := if (lg_cmp (Int32.toInt64 (S_X2_property ρ k wh)) (-100009 : Int64)) = 0 then (nn) else (nn + (1 : Int64)); let m7 : Int64 := if (lg_cmp (Int32.toInt64 (S_X2_property ρ k wh)) (-100009 : Int64)) = 0 then (sx) else (sx + (Int32.toInt64 (S_X2_property ρ k 0))); let m8 : Int64 := if (lg_cmp (Int32.toInt64 (S_X2_property ρ k wh)) (-100009 : Int64)) = 0 then (sv) else (sv + (Int32.toInt64 (S_X2_property ρ k wh))); let m9 : Int64 := if (lg_cmp (Int32.toInt64 (S_X2_property ρ k wh)) (-100009 : Int64)) = 0 then (sxv) else (sxv + ((Int32.toInt64 (S_X2_property ρ k 0)) * (Int32.toInt64 (S_X2_property ρ k wh)))); let m10 : Int64 := if (lg_cmp (Int32.toInt64 (S_X2_property ρ k wh)) (-100009 : Int64)) = 0 then (sxx) else (sxx + ((Int32.toInt64 (S_X2_property ρ k 0)) * (Int32.toInt64 (S_X2_property ρ k 0)))); L_X2_slope_17 fu ρ wh m6 m7 m8 m9 m10 (k + 1)))
def S_X2_slope (ρ : Nat → Int32) (wh : Int32) : Int32 := L_X2_slope_17 9 ρ wh (0 : Int64) (0 : Int64) (0 : Int64) (0 : Int64) (0 : Int64) 0
set_option maxRecDepth 100000 in
set_option maxHeartbeats 4000000 in
theorem w_X2_slope_17 {G : Geo} {p : Program} {l : Launch} {e : Env} {s : State} {m : MethodId} {args : Array Value} {below : List Frame} {meth : Method} {c : Code} {h : Hp} {g : Nat} {ρ : Nat → Int32} {wh : Int32} (X : CX G (AA G) p s m meth c RX2 cX2_slope 17) (hret : meth.sig.returnType = (some .int)) (hT_g : gT G g = 5) (hr_g : h g = ρ) (Z : Int32) : ∀ (fu : Nat) (nn : Int64) (sx : Int64) (sv : Int64) (sxv : Int64) (sxx : Int64) (k : Int32), ((8 : Int32).toInt - k.toInt).toNat < fu → L_X2_slope_17 fu ρ wh nn sx sv sxv sxx k = Z → VV G (AA G) p l e { frames := 2, cells := 0, slots := 0, locals := 48 } s m args below meth c 0 0 (MQ below (QC G h (some (.int Z))) args s 0 0 (AA G)) 17 h 17 [(0, .ref (gA G g 0)), (1, .int wh), (2, .long nn), (4, .long sx), (6, .long sv), (8, .long sxv), (10, .long sxx), (12, .int k)] [] := by
  intro fu
  induction fu with
  | zero =>
    intro nn sx sv sxv sxx k  hm
    exact absurd hm (Nat.not_lt_zero _)
  | succ fu ih =>
    intro nn sx sv sxv sxx k  hm hZ
    have hG := X.2.2.2.2.2.1
    refine q_iload X 7 dX2_slope_17 rfl ?_
    refine q_bipush (v := 8) X dX2_slope_19 (by decide) ?_
    refine q_icmp_ge (tgt := 106) X dX2_slope_21 (by decide) (fun c1 => ?_) (fun c1 => ?_)
    · skip
      refine q_lload_n X 2 dX2_slope_106 rfl ?_
      refine q_ldc2 X kl_X2_62 dX2_slope_107 ?_
      refine q_lcmp X dX2_slope_110 ?_
      refine q_if_ge (tgt := 117) X dX2_slope_111 (by decide) (fun c2 => ?_) (fun c2 => ?_)
      · skip
        refine q_ldc2 X kl_X2_65 dX2_slope_117 ?_
        refine q_lload_n X 2 dX2_slope_120 rfl ?_
        refine q_lload X 5 dX2_slope_121 rfl ?_
        refine q_lmul X dX2_slope_123 ?_
        refine q_lload X 3 dX2_slope_124 rfl ?_
        refine q_lload X 4 dX2_slope_126 rfl ?_
        refine q_lmul X dX2_slope_128 ?_
        refine q_lsub X dX2_slope_129 ?_
        refine q_lmul X dX2_slope_130 ?_
        refine q_lload_n X 2 dX2_slope_131 rfl ?_
        refine q_lload X 6 dX2_slope_132 rfl ?_
        refine q_lmul X dX2_slope_134 ?_
        refine q_lload X 3 dX2_slope_135 rfl ?_
        refine q_lload X 3 dX2_slope_137 rfl ?_
        refine q_lmul X dX2_slope_139 ?_
        refine q_lsub X dX2_slope_140 ?_
        refine q_callSN (h1 := _) (rest := []) (As := [.long ((100 : Int64) * ((nn * sxv) - (sx * sv))), .long ((nn * sxx) - (sx * sx))]) X (c_X9_quotient (l := l) hG   ((100 : Int64) * ((nn * sxv) - (sx * sv))) ((nn * sxx) - (sx * sx)) ) mf_X9_quotient ms_X9_quotient ln_X2_67 rfl ⟨by decide, by decide⟩ ⟨Nat.le_refl _, Nat.le_refl _⟩ rfl (Nat.le_of_ble_eq_true rfl) dX2_slope_141 (st2 := [.long (S_X9_quotient ((100 : Int64) * ((nn * sxv) - (sx * sv))) ((nn * sxx) - (sx * sx)))]) rfl ?_
        refine q_l2i X dX2_slope_144 ?_
        have E : Z = Int64.toInt32 (S_X9_quotient ((100 : Int64) * ((nn * sxv) - (sx * sv))) ((nn * sxx) - (sx * sx))) := by exact hZ.symm.trans ((if_pos c1).trans ((if_pos c2).trans rfl))
        exact q_iret X hret dX2_slope_145 (by rw [E]) rfl
      · skip
        refine q_ldc X kc_X2_64 dX2_slope_114 ?_
        have E : Z = (-100009) := by exact hZ.symm.trans ((if_pos c1).trans ((if_neg c2).trans rfl))
        exact q_iret X hret dX2_slope_116 (by rw [E]) rfl
    · skip
      refine q_iload X 7 dX2_slope_24 rfl ?_
      refine q_aload_n X 0 dX2_slope_26 rfl ?_
      refine q_geti (fk := 1) (x := ρ 1) X cf_X2 (ac_5_0 hT_g) (by decide) fl_X2_15 rfl rfl dX2_slope_27 (hr_g) rfl ?_
      refine q_icmp_ge (tgt := 106) X dX2_slope_30 (by decide) (fun c3 => ?_) (fun c3 => ?_)
      · skip
        refine q_lload_n X 2 dX2_slope_106 rfl ?_
        refine q_ldc2 X kl_X2_62 dX2_slope_107 ?_
        refine q_lcmp X dX2_slope_110 ?_
        refine q_if_ge (tgt := 117) X dX2_slope_111 (by decide) (fun c4 => ?_) (fun c4 => ?_)
        · skip
          refine q_ldc2 X kl_X2_65 dX2_slope_117 ?_
          refine q_lload_n X 2 dX2_slope_120 rfl ?_
          refine q_lload X 5 dX2_slope_121 rfl ?_
          refine q_lmul X dX2_slope_123 ?_
          refine q_lload X 3 dX2_slope_124 rfl ?_
          refine q_lload X 4 dX2_slope_126 rfl ?_
          refine q_lmul X dX2_slope_128 ?_
          refine q_lsub X dX2_slope_129 ?_
          refine q_lmul X dX2_slope_130 ?_
          refine q_lload_n X 2 dX2_slope_131 rfl ?_
          refine q_lload X 6 dX2_slope_132 rfl ?_
          refine q_lmul X dX2_slope_134 ?_
          refine q_lload X 3 dX2_slope_135 rfl ?_
          refine q_lload X 3 dX2_slope_137 rfl ?_
          refine q_lmul X dX2_slope_139 ?_
          refine q_lsub X dX2_slope_140 ?_
          refine q_callSN (h1 := _) (rest := []) (As := [.long ((100 : Int64) * ((nn * sxv) - (sx * sv))), .long ((nn * sxx) - (sx * sx))]) X (c_X9_quotient (l := l) hG   ((100 : Int64) * ((nn * sxv) - (sx * sv))) ((nn * sxx) - (sx * sx)) ) mf_X9_quotient ms_X9_quotient ln_X2_67 rfl ⟨by decide, by decide⟩ ⟨Nat.le_refl _, Nat.le_refl _⟩ rfl (Nat.le_of_ble_eq_true rfl) dX2_slope_141 (st2 := [.long (S_X9_quotient ((100 : Int64) * ((nn * sxv) - (sx * sv))) ((nn * sxx) - (sx * sx)))]) rfl ?_
          refine q_l2i X dX2_slope_144 ?_
          have E : Z = Int64.toInt32 (S_X9_quotient ((100 : Int64) * ((nn * sxv) - (sx * sv))) ((nn * sxx) - (sx * sx))) := by exact hZ.symm.trans ((if_neg c1).trans ((if_pos c3).trans ((if_pos c4).trans rfl)))
          exact q_iret X hret dX2_slope_145 (by rw [E]) rfl
        · skip
          refine q_ldc X kc_X2_64 dX2_slope_114 ?_
          have E : Z = (-100009) := by exact hZ.symm.trans ((if_neg c1).trans ((if_pos c3).trans ((if_neg c4).trans rfl)))
          exact q_iret X hret dX2_slope_116 (by rw [E]) rfl
      · skip
        refine q_aload_n X 0 dX2_slope_33 rfl ?_
        refine q_iload X 7 dX2_slope_34 rfl ?_
        refine q_iconst (v := 0) X dX2_slope_36 (by decide) ?_
        refine q_callV (h1 := _) (rest := []) (As := [.int k, .int 0]) X (c_X2_property (l := l) hG (ρ := ρ)  k 0 hT_g (hr_g)) mf_X2_property mv_X2_property cf_X2 rfl (ac_5_0 hT_g) lk_X2_57 rfl ⟨by decide, by decide⟩ ⟨Nat.le_refl _, Nat.le_refl _⟩ rfl (Nat.le_of_ble_eq_true rfl) dX2_slope_37 (st2 := [.int (S_X2_property ρ k 0)]) rfl ?_
        refine q_i2l X dX2_slope_40 ?_
        refine q_lstore (lv' := [(13, .long (Int32.toInt64 (S_X2_property ρ k 0))), (0, .ref (gA G g 0)), (1, .int wh), (2, .long nn), (4, .long sx), (6, .long sv), (8, .long sxv), (10, .long sxx), (12, .int k)]) X dX2_slope_41 (by decide) rfl ?_
        refine q_aload_n X 1 dX2_slope_43 rfl ?_
        refine q_iload X 8 dX2_slope_44 rfl ?_
        refine q_iload_n X 2 dX2_slope_46 rfl ?_
        refine q_callV (h1 := _) (rest := []) (As := [.int k, .int wh]) X (c_X2_property (l := l) hG (ρ := ρ)  k wh hT_g (hr_g)) mf_X2_property mv_X2_property cf_X2 rfl (ac_5_0 hT_g) lk_X2_57 rfl ⟨by decide, by decide⟩ ⟨Nat.le_refl _, Nat.le_refl _⟩ rfl (Nat.le_of_ble_eq_true rfl) dX2_slope_47 (st2 := [.int (S_X2_property ρ k wh)]) rfl ?_
        refine q_i2l X dX2_slope_50 ?_
        refine q_lstore (lv' := [(15, .long (Int32.toInt64 (S_X2_property ρ k wh))), (13, .long (Int32.toInt64 (S_X2_property ρ k 0))), (0, .ref (gA G g 0)), (1, .int wh), (2, .long nn), (4, .long sx), (6, .long sv), (8, .long sxv), (10, .long sxx), (12, .int k)]) X dX2_slope_51 (by decide) rfl ?_
        refine q_lload X 0 dX2_slope_53 rfl ?_
        refine q_ldc2 X kl_X2_60 dX2_slope_55 ?_
        refine q_lcmp X dX2_slope_58 ?_
        suffices hJ11 : ∀ (m6 : Int64) (m7 : Int64) (m8 : Int64) (m9 : Int64) (m10 : Int64), m6 = (if (lg_cmp (Int32.toInt64 (S_X2_property ρ k wh)) (-100009 : Int64)) = 0 then (nn) else (nn + (1 : Int64))) → m7 = (if (lg_cmp (Int32.toInt64 (S_X2_property ρ k wh)) (-100009 : Int64)) = 0 then (sx) else (sx + (Int32.toInt64 (S_X2_property ρ k 0)))) → m8 = (if (lg_cmp (Int32.toInt64 (S_X2_property ρ k wh)) (-100009 : Int64)) = 0 then (sv) else (sv + (Int32.toInt64 (S_X2_property ρ k wh)))) → m9 = (if (lg_cmp (Int32.toInt64 (S_X2_property ρ k wh)) (-100009 : Int64)) = 0 then (sxv) else (sxv + ((Int32.toInt64 (S_X2_property ρ k 0)) * (Int32.toInt64 (S_X2_property ρ k wh))))) → m10 = (if (lg_cmp (Int32.toInt64 (S_X2_property ρ k wh)) (-100009 : Int64)) = 0 then (sxx) else (sxx + ((Int32.toInt64 (S_X2_property ρ k 0)) * (Int32.toInt64 (S_X2_property ρ k 0))))) → VV G (AA G) p l e { frames := 2, cells := 0, slots := 0, locals := 48 } s m args below meth c 0 0 (MQ below (QC G h (some (.int Z))) args s 0 0 (AA G)) 17 h 100 [(15, .long (Int32.toInt64 (S_X2_property ρ k wh))), (13, .long (Int32.toInt64 (S_X2_property ρ k 0))), (0, .ref (gA G g 0)), (1, .int wh), (2, .long m6), (4, .long m7), (6, .long m8), (8, .long m9), (10, .long m10), (12, .int k)] [] by
          refine q_if_eq (tgt := 100) X dX2_slope_59 (by decide) (fun c5 => ?_) (fun c5 => ?_)
          · skip
            refine q_sub (lv2 := [(15, .long (Int32.toInt64 (S_X2_property ρ k wh))), (13, .long (Int32.toInt64 (S_X2_property ρ k 0))), (0, .ref (gA G g 0)), (1, .int wh), (2, .long nn), (4, .long sx), (6, .long sv), (8, .long sxv), (10, .long sxx), (12, .int k)]) [0, 1, 2, 3, 4, 5, 6, 7, 8, 9] rfl ?_
            exact hJ11 nn sx sv sxv sxx (by exact ((if_pos c5).trans rfl).symm) (by exact ((if_pos c5).trans rfl).symm) (by exact ((if_pos c5).trans rfl).symm) (by exact ((if_pos c5).trans rfl).symm) (by exact ((if_pos c5).trans rfl).symm)
          · skip
            refine q_lload_n X 4 dX2_slope_62 rfl ?_
            refine q_lconst (v := 1) X dX2_slope_63 (by decide) ?_
            refine q_ladd X dX2_slope_64 ?_
            refine q_lstore_n (lv' := [(2, .long (nn + (1 : Int64))), (15, .long (Int32.toInt64 (S_X2_property ρ k wh))), (13, .long (Int32.toInt64 (S_X2_property ρ k 0))), (0, .ref (gA G g 0)), (1, .int wh), (4, .long sx), (6, .long sv), (8, .long sxv), (10, .long sxx), (12, .int k)]) X dX2_slope_65 (by decide) rfl ?_
            refine q_lload X 5 dX2_slope_66 rfl ?_
            refine q_lload X 2 dX2_slope_68 rfl ?_
            refine q_ladd X dX2_slope_70 ?_
            refine q_lstore (lv' := [(4, .long (sx + (Int32.toInt64 (S_X2_property ρ k 0)))), (2, .long (nn + (1 : Int64))), (15, .long (Int32.toInt64 (S_X2_property ρ k wh))), (13, .long (Int32.toInt64 (S_X2_property ρ k 0))), (0, .ref (gA G g 0)), (1, .int wh), (6, .long sv), (8, .long sxv), (10, .long sxx), (12, .int k)]) X dX2_slope_71 (by decide) rfl ?_
            refine q_lload X 6 dX2_slope_73 rfl ?_
            refine q_lload X 2 dX2_slope_75 rfl ?_
            refine q_ladd X dX2_slope_77 ?_
            refine q_lstore (lv' := [(6, .long (sv + (Int32.toInt64 (S_X2_property ρ k wh)))), (4, .long (sx + (Int32.toInt64 (S_X2_property ρ k 0)))), (2, .long (nn + (1 : Int64))), (15, .long (Int32.toInt64 (S_X2_property ρ k wh))), (13, .long (Int32.toInt64 (S_X2_property ρ k 0))), (0, .ref (gA G g 0)), (1, .int wh), (8, .long sxv), (10, .long sxx), (12, .int k)]) X dX2_slope_78 (by decide) rfl ?_
            refine q_lload X 7 dX2_slope_80 rfl ?_
            refine q_lload X 4 dX2_slope_82 rfl ?_
            refine q_lload X 3 dX2_slope_84 rfl ?_
            refine q_lmul X dX2_slope_86 ?_
            refine q_ladd X dX2_slope_87 ?_
            refine q_lstore (lv' := [(8, .long (sxv + ((Int32.toInt64 (S_X2_property ρ k 0)) * (Int32.toInt64 (S_X2_property ρ k wh))))), (6, .long (sv + (Int32.toInt64 (S_X2_property ρ k wh)))), (4, .long (sx + (Int32.toInt64 (S_X2_property ρ k 0)))), (2, .long (nn + (1 : Int64))), (15, .long (Int32.toInt64 (S_X2_property ρ k wh))), (13, .long (Int32.toInt64 (S_X2_property ρ k 0))), (0, .ref (gA G g 0)), (1, .int wh), (10, .long sxx), (12, .int k)]) X dX2_slope_88 (by decide) rfl ?_
            refine q_lload X 8 dX2_slope_90 rfl ?_
            refine q_lload X 5 dX2_slope_92 rfl ?_
            refine q_lload X 5 dX2_slope_94 rfl ?_
            refine q_lmul X dX2_slope_96 ?_
            refine q_ladd X dX2_slope_97 ?_
            refine q_lstore (lv' := [(10, .long (sxx + ((Int32.toInt64 (S_X2_property ρ k 0)) * (Int32.toInt64 (S_X2_property ρ k 0))))), (8, .long (sxv + ((Int32.toInt64 (S_X2_property ρ k 0)) * (Int32.toInt64 (S_X2_property ρ k wh))))), (6, .long (sv + (Int32.toInt64 (S_X2_property ρ k wh)))), (4, .long (sx + (Int32.toInt64 (S_X2_property ρ k 0)))), (2, .long (nn + (1 : Int64))), (15, .long (Int32.toInt64 (S_X2_property ρ k wh))), (13, .long (Int32.toInt64 (S_X2_property ρ k 0))), (0, .ref (gA G g 0)), (1, .int wh), (12, .int k)]) X dX2_slope_98 (by decide) rfl ?_
            refine q_sub (lv2 := [(15, .long (Int32.toInt64 (S_X2_property ρ k wh))), (13, .long (Int32.toInt64 (S_X2_property ρ k 0))), (0, .ref (gA G g 0)), (1, .int wh), (2, .long (nn + (1 : Int64))), (4, .long (sx + (Int32.toInt64 (S_X2_property ρ k 0)))), (6, .long (sv + (Int32.toInt64 (S_X2_property ρ k wh)))), (8, .long (sxv + ((Int32.toInt64 (S_X2_property ρ k 0)) * (Int32.toInt64 (S_X2_property ρ k wh))))), (10, .long (sxx + ((Int32.toInt64 (S_X2_property ρ k 0)) * (Int32.toInt64 (S_X2_property ρ k 0))))), (12, .int k)]) [5, 6, 7, 8, 4, 3, 2, 1, 0, 9] rfl ?_
            exact hJ11 (nn + (1 : Int64)) (sx + (Int32.toInt64 (S_X2_property ρ k 0))) (sv + (Int32.toInt64 (S_X2_property ρ k wh))) (sxv + ((Int32.toInt64 (S_X2_property ρ k 0)) * (Int32.toInt64 (S_X2_property ρ k wh)))) (sxx + ((Int32.toInt64 (S_X2_property ρ k 0)) * (Int32.toInt64 (S_X2_property ρ k 0)))) (by exact ((if_neg c5).trans rfl).symm) (by exact ((if_neg c5).trans rfl).symm) (by exact ((if_neg c5).trans rfl).symm) (by exact ((if_neg c5).trans rfl).symm) (by exact ((if_neg c5).trans rfl).symm)
        intro m6 m7 m8 m9 m10 e_m6 e_m7 e_m8 e_m9 e_m10
        refine q_iinc (v := k + 1) (lv' := [(12, .int (k + 1)), (15, .long (Int32.toInt64 (S_X2_property ρ k wh))), (13, .long (Int32.toInt64 (S_X2_property ρ k 0))), (0, .ref (gA G g 0)), (1, .int wh), (2, .long m6), (4, .long m7), (6, .long m8), (8, .long m9), (10, .long m10)]) X 9 dX2_slope_100 rfl rfl (by decide) rfl ?_
        refine q_goto (tgt := 17) X dX2_slope_103 (by decide) ?_
        refine q_sub (lv2 := [(0, .ref (gA G g 0)), (1, .int wh), (2, .long m6), (4, .long m7), (6, .long m8), (8, .long m9), (10, .long m10), (12, .int (k + 1))]) [3, 4, 5, 6, 7, 8, 9, 0] rfl ?_
        have E : L_X2_slope_17 fu ρ wh m6 m7 m8 m9 m10 (k + 1) = Z := Eq.trans (Eq.symm (by subst e_m10; subst e_m9; subst e_m8; subst e_m7; subst e_m6; exact (if_neg c1).trans ((if_neg c3).trans rfl))) hZ
        exact ih m6 m7 m8 m9 m10 (k + 1)  (by subst e_m10; subst e_m9; subst e_m8; subst e_m7; subst e_m6; exact ms_up c1 hm) E
set_option maxRecDepth 100000 in
set_option maxHeartbeats 4000000 in
theorem c_X2_slope {G : Geo} {l : Launch} (hG : GOK G) {g : Nat} {h : Hp} {ρ : Nat → Int32} (wh : Int32) (hT_g : gT G g = 5) (hr_g : h g = ρ) : CM G l yX2_slope cX2_slope 17 (some .int) 2 48 [.ref (gA G g 0), .int wh] h h (some (.int (S_X2_slope ρ wh))) := by
  obtain ⟨Z, hZ⟩ : ∃ Z, S_X2_slope ρ wh = Z := ⟨_, rfl⟩
  rw [hZ]
  refine q_enter hG mf_X2_slope (Nat.le_of_ble_eq_true rfl) ?_
  intro p e s m below meth c X hret
  refine q_lv (lv2 := [(0, .ref (gA G g 0)), (1, .int wh)]) rfl ?_
  refine q_lconst (v := 0) X dX2_slope_0 (by decide) ?_
  refine q_lstore_n (lv' := [(2, .long (0 : Int64)), (0, .ref (gA G g 0)), (1, .int wh)]) X dX2_slope_1 (by decide) rfl ?_
  refine q_lconst (v := 0) X dX2_slope_2 (by decide) ?_
  refine q_lstore (lv' := [(4, .long (0 : Int64)), (2, .long (0 : Int64)), (0, .ref (gA G g 0)), (1, .int wh)]) X dX2_slope_3 (by decide) rfl ?_
  refine q_lconst (v := 0) X dX2_slope_5 (by decide) ?_
  refine q_lstore (lv' := [(6, .long (0 : Int64)), (4, .long (0 : Int64)), (2, .long (0 : Int64)), (0, .ref (gA G g 0)), (1, .int wh)]) X dX2_slope_6 (by decide) rfl ?_
  refine q_lconst (v := 0) X dX2_slope_8 (by decide) ?_
  refine q_lstore (lv' := [(8, .long (0 : Int64)), (6, .long (0 : Int64)), (4, .long (0 : Int64)), (2, .long (0 : Int64)), (0, .ref (gA G g 0)), (1, .int wh)]) X dX2_slope_9 (by decide) rfl ?_
  refine q_lconst (v := 0) X dX2_slope_11 (by decide) ?_
  refine q_lstore (lv' := [(10, .long (0 : Int64)), (8, .long (0 : Int64)), (6, .long (0 : Int64)), (4, .long (0 : Int64)), (2, .long (0 : Int64)), (0, .ref (gA G g 0)), (1, .int wh)]) X dX2_slope_12 (by decide) rfl ?_
  refine q_iconst (v := 0) X dX2_slope_14 (by decide) ?_
  refine q_istore (lv' := [(12, .int 0), (10, .long (0 : Int64)), (8, .long (0 : Int64)), (6, .long (0 : Int64)), (4, .long (0 : Int64)), (2, .long (0 : Int64)), (0, .ref (gA G g 0)), (1, .int wh)]) X dX2_slope_15 (by decide) rfl ?_
  refine q_sub (lv2 := [(0, .ref (gA G g 0)), (1, .int wh), (2, .long (0 : Int64)), (4, .long (0 : Int64)), (6, .long (0 : Int64)), (8, .long (0 : Int64)), (10, .long (0 : Int64)), (12, .int 0)]) [6, 7, 5, 4, 3, 2, 1, 0] rfl ?_
  have E : L_X2_slope_17 9 ρ wh (0 : Int64) (0 : Int64) (0 : Int64) (0 : Int64) (0 : Int64) 0 = Z := Eq.trans (Eq.symm (by exact rfl)) hZ
  exact w_X2_slope_17 X hret hT_g hr_g Z 9 (0 : Int64) (0 : Int64) (0 : Int64) (0 : Int64) (0 : Int64) 0  (by decide) E
end
section
def S_X3_takesTick (ρ : Nat → Int32) (π : Nat → Int32) (nu : Int32) : Int32 × (Nat → Int32) := if 8 ≤ (π 0) then ((0, ρ)) else (if nu ≤ (ρ 0) then ((0, ρ)) else (if (S_X9_inRange nu 0 400) = 0 then ((0, ρ)) else (let r4 : Nat → Int32 := va_up ρ 0 nu; (1, r4))))
set_option maxRecDepth 100000 in
set_option maxHeartbeats 4000000 in
theorem c_X3_takesTick {G : Geo} {l : Launch} (hG : GOK G) {h : Hp} {ρ : Nat → Int32} {π : Nat → Int32} (nu : Int32) (hK : KT G) (hr_8 : h 8 = ρ) (hr_9 : h 9 = π) : CM G l yX3_takesTick cX3_takesTick 2 (some .boolean) 1 22 [.ref (gA G 8 0), .int nu] h (va_up h 8 ((S_X3_takesTick ρ π nu).2)) (some (.int ((S_X3_takesTick ρ π nu).1))) := by
  obtain ⟨Z, hZ⟩ : ∃ Z, S_X3_takesTick ρ π nu = Z := ⟨_, rfl⟩
  rw [hZ]
  refine q_enter hG mf_X3_takesTick (Nat.le_of_ble_eq_true rfl) ?_
  intro p e s m below meth c X hret
  have hT_8 : gT G 8 = 7 := hK 8 (by decide)
  have hT_9 : gT G 9 = 3 := hK 9 (by decide)
  refine q_lv (lv2 := [(0, .ref (gA G 8 0)), (1, .int nu)]) rfl ?_
  refine q_aload_n X 0 dX3_takesTick_0 rfl ?_
  refine q_get (fk := 0) (v := .ref (gA G 9 0)) X cf_X3 (ac_7_0 hT_8) (by decide) fl_X3_14 rfl rfl dX3_takesTick_1 rfl ?_
  refine q_geti (fk := 2) (x := π 0) X cf_X6 (ac_3_0 hT_9) (by decide) fl_X3_24 rfl rfl dX3_takesTick_4 (hr_9) rfl ?_
  refine q_bipush (v := 8) X dX3_takesTick_7 (by decide) ?_
  refine q_icmp_ge (tgt := 31) X dX3_takesTick_9 (by decide) (fun c1 => ?_) (fun c1 => ?_)
  · skip
    refine q_iconst (v := 0) X dX3_takesTick_31 (by decide) ?_
    have E : Z = (0, ρ) := by exact hZ.symm.trans ((if_pos c1).trans rfl)
    exact q_zret X hret rfl dX3_takesTick_32 (by rw [E]) (by rw [E]; exact va_up_id2 (hr_8))
  · skip
    refine q_iload_n X 1 dX3_takesTick_12 rfl ?_
    refine q_aload_n X 0 dX3_takesTick_13 rfl ?_
    refine q_geti (fk := 1) (x := ρ 0) X cf_X3 (ac_7_0 hT_8) (by decide) fl_X3_20 rfl rfl dX3_takesTick_14 (hr_8) rfl ?_
    refine q_icmp_le (tgt := 31) X dX3_takesTick_17 (by decide) (fun c2 => ?_) (fun c2 => ?_)
    · skip
      refine q_iconst (v := 0) X dX3_takesTick_31 (by decide) ?_
      have E : Z = (0, ρ) := by exact hZ.symm.trans ((if_neg c1).trans ((if_pos c2).trans rfl))
      exact q_zret X hret rfl dX3_takesTick_32 (by rw [E]) (by rw [E]; exact va_up_id2 (hr_8))
    · skip
      refine q_iload_n X 1 dX3_takesTick_20 rfl ?_
      refine q_iconst (v := 0) X dX3_takesTick_21 (by decide) ?_
      refine q_sipush (v := 400) X dX3_takesTick_22 (by decide) ?_
      refine q_callSN (h1 := _) (rest := []) (As := [.int nu, .int 0, .int 400]) X (c_X9_inRange (l := l) hG   nu 0 400 ) mf_X9_inRange ms_X9_inRange ln_X3_57 rfl ⟨by decide, by decide⟩ ⟨Nat.le_refl _, Nat.le_refl _⟩ rfl (Nat.le_of_ble_eq_true rfl) dX3_takesTick_25 (st2 := [.int (S_X9_inRange nu 0 400)]) rfl ?_
      refine q_if_ne (tgt := 33) X dX3_takesTick_28 (by decide) (fun c3 => ?_) (fun c3 => ?_)
      · skip
        refine q_aload_n X 0 dX3_takesTick_33 rfl ?_
        refine q_iload_n X 1 dX3_takesTick_34 rfl ?_
        obtain ⟨r4, e_r4⟩ : ∃ z : Nat → Int32, z = va_up ρ 0 nu := ⟨_, rfl⟩
        refine q_put (fk := 1) (h2 := va_up h 8 r4) X cf_X3 (ac_7_0 hT_8) (by decide) fl_X3_20 rfl rfl (by rw [hT_8]; rfl) rfl rfl rfl dX3_takesTick_35 (hr_8) (by rw [e_r4]) ?_
        refine q_iconst (v := 1) X dX3_takesTick_38 (by decide) ?_
        have E : Z = (1, r4) := by subst e_r4; exact hZ.symm.trans ((if_neg c1).trans ((if_neg c2).trans ((if_neg c3).trans rfl)))
        exact q_zret X hret rfl dX3_takesTick_39 (by rw [E]) (by rw [E])
      · skip
        refine q_iconst (v := 0) X dX3_takesTick_31 (by decide) ?_
        have E : Z = (0, ρ) := by exact hZ.symm.trans ((if_neg c1).trans ((if_neg c2).trans ((if_pos c3).trans rfl)))
        exact q_zret X hret rfl dX3_takesTick_32 (by rw [E]) (by rw [E]; exact va_up_id2 (hr_8))
theorem Z_X3_takesTick (ρ : Nat → Int32) (π : Nat → Int32) (nu : Int32) : (S_X3_takesTick ρ π nu).1 = 0 ∨ (S_X3_takesTick ρ π nu).1 = 1 := by
  unfold S_X3_takesTick
  (repeat' split) <;> first | exact Or.inl rfl | exact Or.inr rfl
def S_X3_takesTemperature (ρ : Nat → Int32) (π : Nat → Int32) (nu : Int32) : Int32 × (Nat → Int32) := if (S_X9_inRange nu 0 3000) = 0 then ((0, π)) else (let r2 : Nat → Int32 := S_X6_set π 8 (ρ 0) nu; (1, r2))
set_option maxRecDepth 100000 in
set_option maxHeartbeats 4000000 in
theorem c_X3_takesTemperature {G : Geo} {l : Launch} (hG : GOK G) {h : Hp} {ρ : Nat → Int32} {π : Nat → Int32} (nu : Int32) (hK : KT G) (hr_8 : h 8 = ρ) (hr_9 : h 9 = π) : CM G l yX3_takesTemperature cX3_takesTemperature 2 (some .boolean) 3 69 [.ref (gA G 8 0), .int nu] h (va_up h 9 ((S_X3_takesTemperature ρ π nu).2)) (some (.int ((S_X3_takesTemperature ρ π nu).1))) := by
  obtain ⟨Z, hZ⟩ : ∃ Z, S_X3_takesTemperature ρ π nu = Z := ⟨_, rfl⟩
  rw [hZ]
  refine q_enter hG mf_X3_takesTemperature (Nat.le_of_ble_eq_true rfl) ?_
  intro p e s m below meth c X hret
  have hT_8 : gT G 8 = 7 := hK 8 (by decide)
  have hT_9 : gT G 9 = 3 := hK 9 (by decide)
  refine q_lv (lv2 := [(0, .ref (gA G 8 0)), (1, .int nu)]) rfl ?_
  refine q_iload_n X 1 dX3_takesTemperature_0 rfl ?_
  refine q_iconst (v := 0) X dX3_takesTemperature_1 (by decide) ?_
  refine q_sipush (v := 3000) X dX3_takesTemperature_2 (by decide) ?_
  refine q_callSN (h1 := _) (rest := []) (As := [.int nu, .int 0, .int 3000]) X (c_X9_inRange (l := l) hG   nu 0 3000 ) mf_X9_inRange ms_X9_inRange ln_X3_57 rfl ⟨by decide, by decide⟩ ⟨Nat.le_refl _, Nat.le_refl _⟩ rfl (Nat.le_of_ble_eq_true rfl) dX3_takesTemperature_5 (st2 := [.int (S_X9_inRange nu 0 3000)]) rfl ?_
  refine q_if_ne (tgt := 13) X dX3_takesTemperature_8 (by decide) (fun c1 => ?_) (fun c1 => ?_)
  · skip
    refine q_aload_n X 0 dX3_takesTemperature_13 rfl ?_
    refine q_get (fk := 0) (v := .ref (gA G 9 0)) X cf_X3 (ac_7_0 hT_8) (by decide) fl_X3_14 rfl rfl dX3_takesTemperature_14 rfl ?_
    refine q_aload_n X 0 dX3_takesTemperature_17 rfl ?_
    refine q_geti (fk := 1) (x := ρ 0) X cf_X3 (ac_7_0 hT_8) (by decide) fl_X3_20 rfl rfl dX3_takesTemperature_18 (hr_8) rfl ?_
    refine q_iload_n X 1 dX3_takesTemperature_21 rfl ?_
    obtain ⟨r2, e_r2⟩ : ∃ z : Nat → Int32, z = S_X6_set π 8 (ρ 0) nu := ⟨_, rfl⟩
    refine q_callV (h1 := _) (rest := []) (As := [.int (ρ 0), .int nu]) X (c_X6_set (l := l) hG (ρ := π) (n := 8) (ρ 0) nu hT_9 (hr_9) (by rw [hT_9]; rfl)) mf_X6_set mv_X6_set cf_X6 rfl (ac_3_0 hT_9) lk_X3_61 rfl ⟨by decide, by decide⟩ ⟨Nat.le_refl _, Nat.le_refl _⟩ rfl (Nat.le_of_ble_eq_true rfl) dX3_takesTemperature_22 (st2 := []) rfl ?_
    refine q_eq (h2 := va_up h 9 r2) (by rw [e_r2]) rfl ?_
    refine q_iconst (v := 1) X dX3_takesTemperature_25 (by decide) ?_
    have E : Z = (1, r2) := by subst e_r2; exact hZ.symm.trans ((if_neg c1).trans rfl)
    exact q_zret X hret rfl dX3_takesTemperature_26 (by rw [E]) (by rw [E])
  · skip
    refine q_iconst (v := 0) X dX3_takesTemperature_11 (by decide) ?_
    have E : Z = (0, π) := by exact hZ.symm.trans ((if_pos c1).trans rfl)
    exact q_zret X hret rfl dX3_takesTemperature_12 (by rw [E]) (by rw [E]; exact va_up_id2 (hr_9))
theorem Z_X3_takesTemperature (ρ : Nat → Int32) (π : Nat → Int32) (nu : Int32) : (S_X3_takesTemperature ρ π nu).1 = 0 ∨ (S_X3_takesTemperature ρ π nu).1 = 1 := by
  unfold S_X3_takesTemperature
  (repeat' split) <;> first | exact Or.inl rfl | exact Or.inr rfl
def S_X3_takes (ρ : Nat → Int32) (π : Nat → Int32) (τ : Nat → Int32) (ex : Int32) (sa : Int32) (en : Int32) : Int32 × (Nat → Int32) × (Nat → Int32) := if ex = 0 then (let r2 : Nat → Int32 := (S_X3_takesTick ρ π (S_X8_numberIn τ sa en)).2; ((S_X3_takesTick ρ π (S_X8_numberIn τ sa en)).1, r2, π)) else (if ex = 1 then (let r4 : Nat → Int32 := (S_X3_takesTemperature ρ π (S_X8_numberIn τ sa en)).2; ((S_X3_takesTemperature ρ π (S_X8_numberIn τ sa en)).1, ρ, r4)) else (if (S_X8_character τ sa) = 59 then ((1, ρ, π)) else ((0, ρ, π))))
set_option maxRecDepth 100000 in
set_option maxHeartbeats 4000000 in
theorem c_X3_takes {G : Geo} {l : Launch} (hG : GOK G) {h : Hp} {ρ : Nat → Int32} {π : Nat → Int32} {τ : Nat → Int32} (ex : Int32) (sa : Int32) (en : Int32) (hK : KT G) (hr_8 : h 8 = ρ) (hr_9 : h 9 = π) (hr_7 : h 7 = τ) : CM G l yX3_takes cX3_takes 5 (some .boolean) 4 90 [.ref (gA G 8 0), .int ex, .ref (gA G 7 0), .int sa, .int en] h (va_up (va_up h 8 ((S_X3_takes ρ π τ ex sa en).2.1)) 9 ((S_X3_takes ρ π τ ex sa en).2.2)) (some (.int ((S_X3_takes ρ π τ ex sa en).1))) := by
  obtain ⟨Z, hZ⟩ : ∃ Z, S_X3_takes ρ π τ ex sa en = Z := ⟨_, rfl⟩
  rw [hZ]
  refine q_enter hG mf_X3_takes (Nat.le_of_ble_eq_true rfl) ?_
  intro p e s m below meth c X hret
  have hT_8 : gT G 8 = 7 := hK 8 (by decide)
  have hT_9 : gT G 9 = 3 := hK 9 (by decide)
  have hT_7 : gT G 7 = 6 := hK 7 (by decide)
  refine q_lv (lv2 := [(0, .ref (gA G 8 0)), (1, .int ex), (2, .ref (gA G 7 0)), (3, .int sa), (4, .int en)]) rfl ?_
  refine q_iload_n X 1 dX3_takes_0 rfl ?_
  rcases Decidable.em (ex = 0) with c1 | c1
  · skip
    refine q_look (off := 27) (tgt := 28) X dX3_takes_1 (by decide) (by rw [c1]; rfl) (by decide) ?_
    refine q_aload_n X 0 dX3_takes_28 rfl ?_
    refine q_aload_n X 2 dX3_takes_29 rfl ?_
    refine q_iload_n X 3 dX3_takes_30 rfl ?_
    refine q_iload X 4 dX3_takes_31 rfl ?_
    refine q_callV (h1 := _) (rest := [.ref (gA G 8 0)]) (As := [.int sa, .int en]) X (c_X8_numberIn (l := l) hG (τ := τ)  sa en hT_7 (hr_7)) mf_X8_numberIn mv_X8_numberIn cf_X8 rfl (ac_6_0 hT_7) lk_X3_43 rfl ⟨by decide, by decide⟩ ⟨Nat.le_refl _, Nat.le_refl _⟩ rfl (Nat.le_of_ble_eq_true rfl) dX3_takes_33 (st2 := [.int (S_X8_numberIn τ sa en), .ref (gA G 8 0)]) rfl ?_
    obtain ⟨r2, e_r2⟩ : ∃ z : Nat → Int32, z = (S_X3_takesTick ρ π (S_X8_numberIn τ sa en)).2 := ⟨_, rfl⟩
    refine q_callV (h1 := _) (rest := []) (As := [.int (S_X8_numberIn τ sa en)]) X (c_X3_takesTick (l := l) hG (ρ := ρ) (π := π)  (S_X8_numberIn τ sa en) hK (hr_8) (hr_9)) mf_X3_takesTick mv_X3_takesTick cf_X3 rfl (ac_7_0 hT_8) lk_X3_47 rfl ⟨by decide, by decide⟩ ⟨Nat.le_refl _, Nat.le_refl _⟩ rfl (Nat.le_of_ble_eq_true rfl) dX3_takes_36 (st2 := [.int ((S_X3_takesTick ρ π (S_X8_numberIn τ sa en)).1)]) rfl ?_
    refine q_eq (h2 := va_up h 8 r2) (by rw [e_r2]) rfl ?_
    have E : Z = ((S_X3_takesTick ρ π (S_X8_numberIn τ sa en)).1, r2, π) := by subst e_r2; exact hZ.symm.trans ((if_pos c1).trans rfl)
    exact q_zret X hret (z01 (Z_X3_takesTick ..)) dX3_takes_39 (by rw [E]) (by rw [E]; (funext x; simp only [va_up]; (repeat' split) <;> first | rfl | omega | (subst_vars; rfl) | (subst_vars; assumption)))
  rcases Decidable.em (ex = 1) with c3 | c3
  · skip
    refine q_look (off := 39) (tgt := 40) X dX3_takes_1 (by decide) (by rw [c3]; rfl) (by decide) ?_
    refine q_aload_n X 0 dX3_takes_40 rfl ?_
    refine q_aload_n X 2 dX3_takes_41 rfl ?_
    refine q_iload_n X 3 dX3_takes_42 rfl ?_
    refine q_iload X 4 dX3_takes_43 rfl ?_
    refine q_callV (h1 := _) (rest := [.ref (gA G 8 0)]) (As := [.int sa, .int en]) X (c_X8_numberIn (l := l) hG (τ := τ)  sa en hT_7 (hr_7)) mf_X8_numberIn mv_X8_numberIn cf_X8 rfl (ac_6_0 hT_7) lk_X3_43 rfl ⟨by decide, by decide⟩ ⟨Nat.le_refl _, Nat.le_refl _⟩ rfl (Nat.le_of_ble_eq_true rfl) dX3_takes_45 (st2 := [.int (S_X8_numberIn τ sa en), .ref (gA G 8 0)]) rfl ?_
    obtain ⟨r4, e_r4⟩ : ∃ z : Nat → Int32, z = (S_X3_takesTemperature ρ π (S_X8_numberIn τ sa en)).2 := ⟨_, rfl⟩
    refine q_callV (h1 := _) (rest := []) (As := [.int (S_X8_numberIn τ sa en)]) X (c_X3_takesTemperature (l := l) hG (ρ := ρ) (π := π)  (S_X8_numberIn τ sa en) hK (hr_8) (hr_9)) mf_X3_takesTemperature mv_X3_takesTemperature cf_X3 rfl (ac_7_0 hT_8) lk_X3_51 rfl ⟨by decide, by decide⟩ ⟨Nat.le_refl _, Nat.le_refl _⟩ rfl (Nat.le_of_ble_eq_true rfl) dX3_takes_48 (st2 := [.int ((S_X3_takesTemperature ρ π (S_X8_numberIn τ sa en)).1)]) rfl ?_
    refine q_eq (h2 := va_up h 9 r4) (by rw [e_r4]) rfl ?_
    have E : Z = ((S_X3_takesTemperature ρ π (S_X8_numberIn τ sa en)).1, ρ, r4) := by subst e_r4; exact hZ.symm.trans ((if_neg c1).trans ((if_pos c3).trans rfl))
    exact q_zret X hret (z01 (Z_X3_takesTemperature ..)) dX3_takes_51 (by rw [E]) (by rw [E]; (funext x; simp only [va_up]; (repeat' split) <;> first | rfl | omega | (subst_vars; rfl) | (subst_vars; assumption)))
  refine q_look (off := 51) (tgt := 52) X dX3_takes_1 (by decide) ((lv_osw c1 (a := 0) (by decide)).trans ((lv_osw c3 (a := 1) (by decide)).trans (rfl))) (by decide) ?_
  refine q_aload_n X 2 dX3_takes_52 rfl ?_
  refine q_iload_n X 3 dX3_takes_53 rfl ?_
  refine q_callV (h1 := _) (rest := []) (As := [.int sa]) X (c_X8_character (l := l) hG (τ := τ)  sa hT_7 (hr_7)) mf_X8_character mv_X8_character cf_X8 rfl (ac_6_0 hT_7) lk_X3_54 rfl ⟨by decide, by decide⟩ ⟨Nat.le_refl _, Nat.le_refl _⟩ rfl (Nat.le_of_ble_eq_true rfl) dX3_takes_54 (st2 := [.int (S_X8_character τ sa)]) rfl ?_
  refine q_bipush (v := 59) X dX3_takes_57 (by decide) ?_
  refine q_icmp_ne (tgt := 66) X dX3_takes_59 (by decide) (fun c5 => ?_) (fun c5 => ?_)
  · skip
    refine q_iconst (v := 0) X dX3_takes_66 (by decide) ?_
    have E : Z = (0, ρ, π) := by exact hZ.symm.trans ((if_neg c1).trans ((if_neg c3).trans ((if_neg c5).trans rfl)))
    exact q_zret X hret rfl dX3_takes_67 (by rw [E]) (by rw [E]; (funext x; simp only [va_up]; (repeat' split) <;> first | rfl | omega | (subst_vars; rfl) | (subst_vars; assumption)))
  · skip
    refine q_iconst (v := 1) X dX3_takes_62 (by decide) ?_
    refine q_goto (tgt := 67) X dX3_takes_63 (by decide) ?_
    have E : Z = (1, ρ, π) := by exact hZ.symm.trans ((if_neg c1).trans ((if_neg c3).trans ((if_pos c5).trans rfl)))
    exact q_zret X hret rfl dX3_takes_67 (by rw [E]) (by rw [E]; (funext x; simp only [va_up]; (repeat' split) <;> first | rfl | omega | (subst_vars; rfl) | (subst_vars; assumption)))
theorem Z_X3_takes (ρ : Nat → Int32) (π : Nat → Int32) (τ : Nat → Int32) (ex : Int32) (sa : Int32) (en : Int32) : (S_X3_takes ρ π τ ex sa en).1 = 0 ∨ (S_X3_takes ρ π τ ex sa en).1 = 1 := by
  unfold S_X3_takes
  by_cases h0 : ex = 0
  · rw [if_pos h0]; exact Z_X3_takesTick ..
  · rw [if_neg h0]
    by_cases h1 : ex = 1
    · rw [if_pos h1]; exact Z_X3_takesTemperature ..
    · rw [if_neg h1]
      split
      · exact Or.inr rfl
      · exact Or.inl rfl
def L_X3_errorPosition_24 (fu : Nat) (ρ : Nat → Int32) (π : Nat → Int32) (τ : Nat → Int32) (ex : Int32) (sa : Int32) (tk : Int32) (ρ1 : Nat → Int32) (π1 : Nat → Int32) : Int32 × (Nat → Int32) × (Nat → Int32) := match fu with
  | 0 => (0, (fun _ => 0), (fun _ => 0))
  | fu + 1 => if 100 ≤ tk then (let m5 : Int32 := if ex = 0 then ((-1)) else (τ 0); (m5, ρ1, π1)) else (if (τ 0) ≤ sa then (let m9 : Int32 := if ex = 0 then ((-1)) else (τ 0); (m9, ρ1, π1)) else (let r11 : Nat → Int32 := (S_X3_takes ρ1 π1 τ ex sa (S_X8_afterToken τ sa)).2.1; let r12 : Nat → Int32 := (S_X3_takes ρ1 π1 τ ex sa (S_X8_afterToken τ sa)).2.2; if ((S_X3_takes ρ1 π1 τ ex sa (S_X8_afterToken τ sa)).1) = 0 then ((sa, r11, r12)) else (let m15 : Int32 := if ex = 2 then (0) else (ex + 1); L_X3_errorPosition_24 fu ρ π τ m15 (S_X8_afterSpaces τ (S_X8_afterToken τ sa)) (tk + 1) r11 r12)))
def S_X3_errorPosition (ρ : Nat → Int32) (π : Nat → Int32) (τ : Nat → Int32) : Int32 × (Nat → Int32) × (Nat → Int32) := let r1 : Nat → Int32 := va_up π 0 0; let r2 : Nat → Int32 := va_up ρ 0 (-1); L_X3_errorPosition_24 101 ρ π τ 0 (S_X8_afterSpaces τ 0) 0 r2 r1
set_option maxRecDepth 100000 in
set_option maxHeartbeats 4000000 in
theorem w_X3_errorPosition_24 {G : Geo} {p : Program} {l : Launch} {e : Env} {s : State} {m : MethodId} {args : Array Value} {below : List Frame} {meth : Method} {c : Code} {h : Hp} {ρ : Nat → Int32} {π : Nat → Int32} {τ : Nat → Int32} (X : CX G (AA G) p s m meth c RX3 cX3_errorPosition 6) (hret : meth.sig.returnType = (some .int)) (hK : KT G) (hr_8 : h 8 = ρ) (hr_9 : h 9 = π) (hr_7 : h 7 = τ) (Z : Int32 × (Nat → Int32) × (Nat → Int32)) : ∀ (fu : Nat) (ex : Int32) (sa : Int32) (tk : Int32) (ρ1 : Nat → Int32) (π1 : Nat → Int32), ((100 : Int32).toInt - tk.toInt).toNat < fu → L_X3_errorPosition_24 fu ρ π τ ex sa tk ρ1 π1 = Z → VV G (AA G) p l e { frames := 5, cells := 0, slots := 0, locals := 114 } s m args below meth c 0 0 (MQ below (QC G (va_up (va_up h 8 Z.2.1) 9 Z.2.2) (some (.int Z.1))) args s 0 0 (AA G)) 6 (va_up (va_up h 9 π1) 8 ρ1) 24 [(0, .ref (gA G 8 0)), (1, .ref (gA G 7 0)), (2, .int ex), (3, .int sa), (4, .int tk)] [] := by
  intro fu
  induction fu with
  | zero =>
    intro ex sa tk ρ1 π1  hm
    exact absurd hm (Nat.not_lt_zero _)
  | succ fu ih =>
    intro ex sa tk ρ1 π1  hm hZ
    have hG := X.2.2.2.2.2.1
    have hT_8 : gT G 8 = 7 := hK 8 (by decide)
    have hT_9 : gT G 9 = 3 := hK 9 (by decide)
    have hT_7 : gT G 7 = 6 := hK 7 (by decide)
    refine q_iload X 4 dX3_errorPosition_24 rfl ?_
    refine q_bipush (v := 100) X dX3_errorPosition_26 (by decide) ?_
    refine q_icmp_ge (tgt := 86) X dX3_errorPosition_28 (by decide) (fun c3 => ?_) (fun c3 => ?_)
    · skip
      refine q_iload_n X 2 dX3_errorPosition_86 rfl ?_
      suffices hJ6 : ∀ (m5 : Int32), m5 = (if ex = 0 then ((-1)) else (τ 0)) → VV G (AA G) p l e { frames := 5, cells := 0, slots := 0, locals := 114 } s m args below meth c 0 0 (MQ below (QC G (va_up (va_up h 8 Z.2.1) 9 Z.2.2) (some (.int Z.1))) args s 0 0 (AA G)) 6 (va_up (va_up h 9 π1) 8 ρ1) 98 [(0, .ref (gA G 8 0)), (1, .ref (gA G 7 0)), (2, .int ex), (3, .int sa), (4, .int tk)] [.int m5] by
        refine q_if_ne (tgt := 94) X dX3_errorPosition_87 (by decide) (fun c4 => ?_) (fun c4 => ?_)
        · skip
          refine q_aload_n X 1 dX3_errorPosition_94 rfl ?_
          refine q_geti (fk := 1) (x := τ 0) X cf_X8 (ac_6_0 hT_7) (by decide) fl_X3_33 rfl rfl dX3_errorPosition_95 ((va_up_ne _ _ (by decide)).trans ((va_up_ne _ _ (by decide)).trans (hr_7))) rfl ?_
          refine q_sub (lv2 := [(0, .ref (gA G 8 0)), (1, .ref (gA G 7 0)), (2, .int ex), (3, .int sa), (4, .int tk)]) [0, 1, 2, 3, 4] rfl ?_
          exact hJ6 (τ 0) (by exact ((if_neg c4).trans rfl).symm)
        · skip
          refine q_iconst (v := (-1)) X dX3_errorPosition_90 (by decide) ?_
          refine q_goto (tgt := 98) X dX3_errorPosition_91 (by decide) ?_
          refine q_sub (lv2 := [(0, .ref (gA G 8 0)), (1, .ref (gA G 7 0)), (2, .int ex), (3, .int sa), (4, .int tk)]) [0, 1, 2, 3, 4] rfl ?_
          exact hJ6 (-1) (by exact ((if_pos c4).trans rfl).symm)
      intro m5 e_m5
      have E : Z = (m5, ρ1, π1) := by subst e_m5; exact hZ.symm.trans ((if_pos c3).trans rfl)
      exact q_iret X hret dX3_errorPosition_98 (by rw [E]) (by rw [E]; (funext x; simp only [va_up]; (repeat' split) <;> first | rfl | omega | (subst_vars; rfl) | (subst_vars; assumption)))
    · skip
      refine q_iload_n X 3 dX3_errorPosition_31 rfl ?_
      refine q_aload_n X 1 dX3_errorPosition_32 rfl ?_
      refine q_geti (fk := 1) (x := τ 0) X cf_X8 (ac_6_0 hT_7) (by decide) fl_X3_33 rfl rfl dX3_errorPosition_33 ((va_up_ne _ _ (by decide)).trans ((va_up_ne _ _ (by decide)).trans (hr_7))) rfl ?_
      refine q_icmp_ge (tgt := 86) X dX3_errorPosition_36 (by decide) (fun c7 => ?_) (fun c7 => ?_)
      · skip
        refine q_iload_n X 2 dX3_errorPosition_86 rfl ?_
        suffices hJ10 : ∀ (m9 : Int32), m9 = (if ex = 0 then ((-1)) else (τ 0)) → VV G (AA G) p l e { frames := 5, cells := 0, slots := 0, locals := 114 } s m args below meth c 0 0 (MQ below (QC G (va_up (va_up h 8 Z.2.1) 9 Z.2.2) (some (.int Z.1))) args s 0 0 (AA G)) 6 (va_up (va_up h 9 π1) 8 ρ1) 98 [(0, .ref (gA G 8 0)), (1, .ref (gA G 7 0)), (2, .int ex), (3, .int sa), (4, .int tk)] [.int m9] by
          refine q_if_ne (tgt := 94) X dX3_errorPosition_87 (by decide) (fun c8 => ?_) (fun c8 => ?_)
          · skip
            refine q_aload_n X 1 dX3_errorPosition_94 rfl ?_
            refine q_geti (fk := 1) (x := τ 0) X cf_X8 (ac_6_0 hT_7) (by decide) fl_X3_33 rfl rfl dX3_errorPosition_95 ((va_up_ne _ _ (by decide)).trans ((va_up_ne _ _ (by decide)).trans (hr_7))) rfl ?_
            refine q_sub (lv2 := [(0, .ref (gA G 8 0)), (1, .ref (gA G 7 0)), (2, .int ex), (3, .int sa), (4, .int tk)]) [0, 1, 2, 3, 4] rfl ?_
            exact hJ10 (τ 0) (by exact ((if_neg c8).trans rfl).symm)
          · skip
            refine q_iconst (v := (-1)) X dX3_errorPosition_90 (by decide) ?_
            refine q_goto (tgt := 98) X dX3_errorPosition_91 (by decide) ?_
            refine q_sub (lv2 := [(0, .ref (gA G 8 0)), (1, .ref (gA G 7 0)), (2, .int ex), (3, .int sa), (4, .int tk)]) [0, 1, 2, 3, 4] rfl ?_
            exact hJ10 (-1) (by exact ((if_pos c8).trans rfl).symm)
        intro m9 e_m9
        have E : Z = (m9, ρ1, π1) := by subst e_m9; exact hZ.symm.trans ((if_neg c3).trans ((if_pos c7).trans rfl))
        exact q_iret X hret dX3_errorPosition_98 (by rw [E]) (by rw [E]; (funext x; simp only [va_up]; (repeat' split) <;> first | rfl | omega | (subst_vars; rfl) | (subst_vars; assumption)))
      · skip
        refine q_aload_n X 1 dX3_errorPosition_39 rfl ?_
        refine q_iload_n X 3 dX3_errorPosition_40 rfl ?_
        refine q_callV (h1 := _) (rest := []) (As := [.int sa]) X (c_X8_afterToken (l := l) hG (τ := τ)  sa hT_7 ((va_up_ne _ _ (by decide)).trans ((va_up_ne _ _ (by decide)).trans (hr_7)))) mf_X8_afterToken mv_X8_afterToken cf_X8 rfl (ac_6_0 hT_7) lk_X3_36 rfl ⟨by decide, by decide⟩ ⟨Nat.le_refl _, Nat.le_refl _⟩ rfl (Nat.le_of_ble_eq_true rfl) dX3_errorPosition_41 (st2 := [.int (S_X8_afterToken τ sa)]) rfl ?_
        refine q_istore (lv' := [(5, .int (S_X8_afterToken τ sa)), (0, .ref (gA G 8 0)), (1, .ref (gA G 7 0)), (2, .int ex), (3, .int sa), (4, .int tk)]) X dX3_errorPosition_44 (by decide) rfl ?_
        refine q_aload_n X 1 dX3_errorPosition_46 rfl ?_
        refine q_iload_n X 3 dX3_errorPosition_47 rfl ?_
        refine q_aload_n X 2 dX3_errorPosition_48 rfl ?_
        refine q_iload_n X 4 dX3_errorPosition_49 rfl ?_
        refine q_iload X 0 dX3_errorPosition_50 rfl ?_
        obtain ⟨r11, e_r11⟩ : ∃ z : Nat → Int32, z = (S_X3_takes ρ1 π1 τ ex sa (S_X8_afterToken τ sa)).2.1 := ⟨_, rfl⟩
        obtain ⟨r12, e_r12⟩ : ∃ z : Nat → Int32, z = (S_X3_takes ρ1 π1 τ ex sa (S_X8_afterToken τ sa)).2.2 := ⟨_, rfl⟩
        refine q_callV (h1 := _) (rest := []) (As := [.int ex, .ref (gA G 7 0), .int sa, .int (S_X8_afterToken τ sa)]) X (c_X3_takes (l := l) hG (ρ := ρ1) (π := π1) (τ := τ)  ex sa (S_X8_afterToken τ sa) hK (va_up_self _ _ _) ((va_up_ne _ _ (by decide)).trans (va_up_self _ _ _)) ((va_up_ne _ _ (by decide)).trans ((va_up_ne _ _ (by decide)).trans (hr_7)))) mf_X3_takes mv_X3_takes cf_X3 rfl (ac_7_0 hT_8) lk_X3_39 rfl ⟨by decide, by decide⟩ ⟨Nat.le_refl _, Nat.le_refl _⟩ rfl (Nat.le_of_ble_eq_true rfl) dX3_errorPosition_52 (st2 := [.int ((S_X3_takes ρ1 π1 τ ex sa (S_X8_afterToken τ sa)).1)]) rfl ?_
        refine q_eq (h2 := va_up (va_up h 8 r11) 9 r12) (by rw [← e_r11, ← e_r12]; (funext x; simp only [va_up]; (repeat' split) <;> first | rfl | omega)) rfl ?_
        refine q_if_ne (tgt := 60) X dX3_errorPosition_55 (by decide) (fun c13 => ?_) (fun c13 => ?_)
        · skip
          refine q_iload_n X 3 dX3_errorPosition_60 rfl ?_
          refine q_iconst (v := 2) X dX3_errorPosition_61 (by decide) ?_
          suffices hJ16 : ∀ (m15 : Int32), m15 = (if ex = 2 then (0) else (ex + 1)) → VV G (AA G) p l e { frames := 5, cells := 0, slots := 0, locals := 114 } s m args below meth c 0 0 (MQ below (QC G (va_up (va_up h 8 Z.2.1) 9 Z.2.2) (some (.int Z.1))) args s 0 0 (AA G)) 6 (va_up (va_up h 8 r11) 9 r12) 72 [(5, .int (S_X8_afterToken τ sa)), (0, .ref (gA G 8 0)), (1, .ref (gA G 7 0)), (2, .int ex), (3, .int sa), (4, .int tk)] [.int m15] by
            refine q_icmp_ne (tgt := 69) X dX3_errorPosition_62 (by decide) (fun c14 => ?_) (fun c14 => ?_)
            · skip
              refine q_iload_n X 3 dX3_errorPosition_69 rfl ?_
              refine q_iconst (v := 1) X dX3_errorPosition_70 (by decide) ?_
              refine q_iadd X dX3_errorPosition_71 ?_
              refine q_sub (lv2 := [(5, .int (S_X8_afterToken τ sa)), (0, .ref (gA G 8 0)), (1, .ref (gA G 7 0)), (2, .int ex), (3, .int sa), (4, .int tk)]) [0, 1, 2, 3, 4, 5] rfl ?_
              exact hJ16 (ex + 1) (by exact ((if_neg c14).trans rfl).symm)
            · skip
              refine q_iconst (v := 0) X dX3_errorPosition_65 (by decide) ?_
              refine q_goto (tgt := 72) X dX3_errorPosition_66 (by decide) ?_
              refine q_sub (lv2 := [(5, .int (S_X8_afterToken τ sa)), (0, .ref (gA G 8 0)), (1, .ref (gA G 7 0)), (2, .int ex), (3, .int sa), (4, .int tk)]) [0, 1, 2, 3, 4, 5] rfl ?_
              exact hJ16 0 (by exact ((if_pos c14).trans rfl).symm)
          intro m15 e_m15
          refine q_istore_n (lv' := [(2, .int m15), (5, .int (S_X8_afterToken τ sa)), (0, .ref (gA G 8 0)), (1, .ref (gA G 7 0)), (3, .int sa), (4, .int tk)]) X dX3_errorPosition_72 (by decide) rfl ?_
          refine q_aload_n X 3 dX3_errorPosition_73 rfl ?_
          refine q_iload X 1 dX3_errorPosition_74 rfl ?_
          refine q_callV (h1 := _) (rest := []) (As := [.int (S_X8_afterToken τ sa)]) X (c_X8_afterSpaces (l := l) hG (τ := τ)  (S_X8_afterToken τ sa) hT_7 ((va_up_ne _ _ (by decide)).trans ((va_up_ne _ _ (by decide)).trans (hr_7)))) mf_X8_afterSpaces mv_X8_afterSpaces cf_X8 rfl (ac_6_0 hT_7) lk_X3_27 rfl ⟨by decide, by decide⟩ ⟨Nat.le_refl _, Nat.le_refl _⟩ rfl (Nat.le_of_ble_eq_true rfl) dX3_errorPosition_76 (st2 := [.int (S_X8_afterSpaces τ (S_X8_afterToken τ sa))]) rfl ?_
          refine q_istore_n (lv' := [(3, .int (S_X8_afterSpaces τ (S_X8_afterToken τ sa))), (2, .int m15), (5, .int (S_X8_afterToken τ sa)), (0, .ref (gA G 8 0)), (1, .ref (gA G 7 0)), (4, .int tk)]) X dX3_errorPosition_79 (by decide) rfl ?_
          refine q_iinc (v := tk + 1) (lv' := [(4, .int (tk + 1)), (3, .int (S_X8_afterSpaces τ (S_X8_afterToken τ sa))), (2, .int m15), (5, .int (S_X8_afterToken τ sa)), (0, .ref (gA G 8 0)), (1, .ref (gA G 7 0))]) X 5 dX3_errorPosition_80 rfl rfl (by decide) rfl ?_
          refine q_goto (tgt := 24) X dX3_errorPosition_83 (by decide) ?_
          refine q_sub (lv2 := [(0, .ref (gA G 8 0)), (1, .ref (gA G 7 0)), (2, .int m15), (3, .int (S_X8_afterSpaces τ (S_X8_afterToken τ sa))), (4, .int (tk + 1))]) [4, 5, 2, 1, 0] rfl ?_
          refine q_eq (h2 := va_up (va_up h 9 r12) 8 r11) (by funext x; simp only [va_up]; (repeat' split) <;> first | rfl | omega) rfl ?_
          have E : L_X3_errorPosition_24 fu ρ π τ m15 (S_X8_afterSpaces τ (S_X8_afterToken τ sa)) (tk + 1) r11 r12 = Z := Eq.trans (Eq.symm (by subst e_m15; subst e_r12; subst e_r11; exact (if_neg c3).trans ((if_neg c7).trans ((if_neg c13).trans rfl)))) hZ
          exact ih m15 (S_X8_afterSpaces τ (S_X8_afterToken τ sa)) (tk + 1) r11 r12  (by subst e_m15; subst e_r12; subst e_r11; exact ms_up c3 hm) E
        · skip
          refine q_iload_n X 4 dX3_errorPosition_58 rfl ?_
          have E : Z = (sa, r11, r12) := by subst e_r12; subst e_r11; exact hZ.symm.trans ((if_neg c3).trans ((if_neg c7).trans ((if_pos c13).trans rfl)))
          exact q_iret X hret dX3_errorPosition_59 (by rw [E]) (by rw [E])
set_option maxRecDepth 100000 in
set_option maxHeartbeats 4000000 in
theorem c_X3_errorPosition {G : Geo} {l : Launch} (hG : GOK G) {h : Hp} {ρ : Nat → Int32} {π : Nat → Int32} {τ : Nat → Int32} (hK : KT G) (hr_8 : h 8 = ρ) (hr_9 : h 9 = π) (hr_7 : h 7 = τ) : CM G l yX3_errorPosition cX3_errorPosition 6 (some .int) 5 114 [.ref (gA G 8 0), .ref (gA G 7 0)] h (va_up (va_up h 8 ((S_X3_errorPosition ρ π τ).2.1)) 9 ((S_X3_errorPosition ρ π τ).2.2)) (some (.int ((S_X3_errorPosition ρ π τ).1))) := by
  obtain ⟨Z, hZ⟩ : ∃ Z, S_X3_errorPosition ρ π τ = Z := ⟨_, rfl⟩
  rw [hZ]
  refine q_enter hG mf_X3_errorPosition (Nat.le_of_ble_eq_true rfl) ?_
  intro p e s m below meth c X hret
  have hT_8 : gT G 8 = 7 := hK 8 (by decide)
  have hT_9 : gT G 9 = 3 := hK 9 (by decide)
  have hT_7 : gT G 7 = 6 := hK 7 (by decide)
  refine q_lv (lv2 := [(0, .ref (gA G 8 0)), (1, .ref (gA G 7 0))]) rfl ?_
  refine q_aload_n X 0 dX3_errorPosition_0 rfl ?_
  refine q_get (fk := 0) (v := .ref (gA G 9 0)) X cf_X3 (ac_7_0 hT_8) (by decide) fl_X3_14 rfl rfl dX3_errorPosition_1 rfl ?_
  refine q_iconst (v := 0) X dX3_errorPosition_4 (by decide) ?_
  obtain ⟨r1, e_r1⟩ : ∃ z : Nat → Int32, z = va_up π 0 0 := ⟨_, rfl⟩
  refine q_put (fk := 2) (h2 := va_up h 9 r1) X cf_X6 (ac_3_0 hT_9) (by decide) fl_X3_24 rfl rfl (by rw [hT_9]; rfl) rfl rfl rfl dX3_errorPosition_5 (hr_9) (by rw [e_r1]) ?_
  refine q_aload_n X 0 dX3_errorPosition_8 rfl ?_
  refine q_iconst (v := (-1)) X dX3_errorPosition_9 (by decide) ?_
  obtain ⟨r2, e_r2⟩ : ∃ z : Nat → Int32, z = va_up ρ 0 (-1) := ⟨_, rfl⟩
  refine q_put (fk := 1) (h2 := va_up (va_up h 9 r1) 8 r2) X cf_X3 (ac_7_0 hT_8) (by decide) fl_X3_20 rfl rfl (by rw [hT_8]; rfl) rfl rfl rfl dX3_errorPosition_10 ((va_up_ne _ _ (by decide)).trans (hr_8)) (by rw [e_r2]) ?_
  refine q_iconst (v := 0) X dX3_errorPosition_13 (by decide) ?_
  refine q_istore_n (lv' := [(2, .int 0), (0, .ref (gA G 8 0)), (1, .ref (gA G 7 0))]) X dX3_errorPosition_14 (by decide) rfl ?_
  refine q_aload_n X 2 dX3_errorPosition_15 rfl ?_
  refine q_iconst (v := 0) X dX3_errorPosition_16 (by decide) ?_
  refine q_callV (h1 := _) (rest := []) (As := [.int 0]) X (c_X8_afterSpaces (l := l) hG (τ := τ)  0 hT_7 ((va_up_ne _ _ (by decide)).trans ((va_up_ne _ _ (by decide)).trans (hr_7)))) mf_X8_afterSpaces mv_X8_afterSpaces cf_X8 rfl (ac_6_0 hT_7) lk_X3_27 rfl ⟨by decide, by decide⟩ ⟨Nat.le_refl _, Nat.le_refl _⟩ rfl (Nat.le_of_ble_eq_true rfl) dX3_errorPosition_17 (st2 := [.int (S_X8_afterSpaces τ 0)]) rfl ?_
  refine q_istore_n (lv' := [(3, .int (S_X8_afterSpaces τ 0)), (2, .int 0), (0, .ref (gA G 8 0)), (1, .ref (gA G 7 0))]) X dX3_errorPosition_20 (by decide) rfl ?_
  refine q_iconst (v := 0) X dX3_errorPosition_21 (by decide) ?_
  refine q_istore (lv' := [(4, .int 0), (3, .int (S_X8_afterSpaces τ 0)), (2, .int 0), (0, .ref (gA G 8 0)), (1, .ref (gA G 7 0))]) X dX3_errorPosition_22 (by decide) rfl ?_
  refine q_sub (lv2 := [(0, .ref (gA G 8 0)), (1, .ref (gA G 7 0)), (2, .int 0), (3, .int (S_X8_afterSpaces τ 0)), (4, .int 0)]) [3, 4, 2, 1, 0] rfl ?_
  have E : L_X3_errorPosition_24 101 ρ π τ 0 (S_X8_afterSpaces τ 0) 0 r2 r1 = Z := Eq.trans (Eq.symm (by subst e_r2; subst e_r1; exact rfl)) hZ
  exact w_X3_errorPosition_24 X hret hK hr_8 hr_9 hr_7 Z 101 0 (S_X8_afterSpaces τ 0) 0 r2 r1  (by subst e_r2; subst e_r1; decide) E
end
