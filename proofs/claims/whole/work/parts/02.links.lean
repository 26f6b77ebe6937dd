/-! what the tables say, word by word, each by its place in lw_tbl -/
def gw (w : Cond) : Bool := w.onTables && (w.keeps || (match w with | .methodLinkNest _ _ _ _ => true | _ => false))
/-- of a class: its table of fields, and that the tables have it -/
def CF (ci : Nat) (C : String) (T : u_T) (N : Nat) (ty : Nat → FieldType) : Prop :=
  vwCl[ci]? = some (C, T, N) ∧ (∀ w ∈ u_ws C T N, w ∈ lw_tbl ∧ gw w = true) ∧ (∀ k, k < N → parseFieldDescriptor (T k).2.2.1 = some (ty k)) ∧ (∀ a, a < N → ∀ b, b < N → a ≠ b → (T a).2.1 ≠ (T b).2.1)
/-- of a method: what a call needs -/
def MF (y : MethodName) (bytes : ByteArray) (maxL : Nat) (ret : Option FieldType) (n : Nat) : Prop :=
  Cond.code y bytes maxL ret ∈ lw_tbl ∧ Cond.initialized y.cls ∈ lw_tbl ∧ (y.cls ≠ "java/lang/invoke/MethodHandle" ∧ y.cls ≠ "java/lang/invoke/VarHandle") ∧ (parseMethodDescriptor y.desc).map (fun d => d.parameters.length) = some n ∧ plainFor y = true
def MV (y : MethodName) : Prop := Cond.instanceMethod y ∈ lw_tbl ∧ Cond.selects y.cls y y ∈ lw_tbl
theorem cf_X0 : CF 0 RX0 TX0 9 tyX0 := ⟨rfl, by decide +kernel, tyX0_ok, nmX0⟩
theorem cf_X1 : CF 1 RX1 TX1 3 tyX1 := ⟨rfl, by decide +kernel, tyX1_ok, nmX1⟩
theorem cf_X2 : CF 2 RX2 TX2 3 tyX2 := ⟨rfl, by decide +kernel, tyX2_ok, nmX2⟩
theorem cf_X3 : CF 3 RX3 TX3 2 tyX3 := ⟨rfl, by decide +kernel, tyX3_ok, nmX3⟩
theorem cf_X4 : CF 4 RX4 TX4 8 tyX4 := ⟨rfl, by decide +kernel, tyX4_ok, nmX4⟩
theorem cf_X5 : CF 5 RX5 TX5 10 tyX5 := ⟨rfl, by decide +kernel, tyX5_ok, nmX5⟩
theorem cf_X6 : CF 6 RX6 TX6 3 tyX6 := ⟨rfl, by decide +kernel, tyX6_ok, nmX6⟩
theorem cf_X7 : CF 7 RX7 TX7 4 tyX7 := ⟨rfl, by decide +kernel, tyX7_ok, nmX7⟩
theorem cf_X8 : CF 8 RX8 TX8 2 tyX8 := ⟨rfl, by decide +kernel, tyX8_ok, nmX8⟩
theorem cf_X9 : CF 9 RX9 TX9 10 tyX9 := ⟨rfl, by decide +kernel, tyX9_ok, nmX9⟩
theorem cf_X10 : CF 10 RX10 TX10 10 tyX10 := ⟨rfl, by decide +kernel, tyX10_ok, nmX10⟩
theorem lk_L_9 : Cond.methodLink RL 9 yX9_init ∈ lw_tbl := List.mem_of_getElem? (i := 47) (by decide +kernel)
theorem mf_X9_init : MF yX9_init cX9_init 1 none 0 := ⟨List.mem_of_getElem? (i := 49) (by decide +kernel), List.mem_of_getElem? (i := 32) (by decide +kernel), ⟨by decide +kernel, by decide +kernel⟩, by decide +kernel, by decide +kernel⟩
theorem mi_X9_init : Cond.instanceMethod yX9_init ∈ lw_tbl := List.mem_of_getElem? (i := 48) (by decide +kernel)
theorem lk_X9_1 : Cond.methodLink RX9 1 objectInit ∈ lw_tbl := List.mem_of_getElem? (i := 50) (by decide +kernel)
theorem ln_X9_9 : Cond.methodLinkNest RX9 9 yX7_init RX9 ∈ lw_tbl := List.mem_of_getElem? (i := 55) (by decide +kernel)
theorem mf_X7_init : MF yX7_init cX7_init 1 none 0 := ⟨List.mem_of_getElem? (i := 57) (by decide +kernel), List.mem_of_getElem? (i := 33) (by decide +kernel), ⟨by decide +kernel, by decide +kernel⟩, by decide +kernel, by decide +kernel⟩
theorem mi_X7_init : Cond.instanceMethod yX7_init ∈ lw_tbl := List.mem_of_getElem? (i := 56) (by decide +kernel)
theorem lk_X7_3 : Cond.methodLink RX7 3 objectInit ∈ lw_tbl := List.mem_of_getElem? (i := 58) (by decide +kernel)
theorem ln_X7_11 : Cond.methodLinkNest RX7 11 yX4_init RX9 ∈ lw_tbl := List.mem_of_getElem? (i := 61) (by decide +kernel)
theorem mf_X4_init : MF yX4_init cX4_init 1 none 0 := ⟨List.mem_of_getElem? (i := 63) (by decide +kernel), List.mem_of_getElem? (i := 34) (by decide +kernel), ⟨by decide +kernel, by decide +kernel⟩, by decide +kernel, by decide +kernel⟩
theorem mi_X4_init : Cond.instanceMethod yX4_init ∈ lw_tbl := List.mem_of_getElem? (i := 62) (by decide +kernel)
theorem lk_X4_3 : Cond.methodLink RX4 3 objectInit ∈ lw_tbl := List.mem_of_getElem? (i := 64) (by decide +kernel)
theorem ln_X4_11 : Cond.methodLinkNest RX4 11 yX5_init RX9 ∈ lw_tbl := List.mem_of_getElem? (i := 67) (by decide +kernel)
theorem mf_X5_init : MF yX5_init cX5_init 1 none 0 := ⟨List.mem_of_getElem? (i := 69) (by decide +kernel), List.mem_of_getElem? (i := 35) (by decide +kernel), ⟨by decide +kernel, by decide +kernel⟩, by decide +kernel, by decide +kernel⟩
theorem mi_X5_init : Cond.instanceMethod yX5_init ∈ lw_tbl := List.mem_of_getElem? (i := 68) (by decide +kernel)
theorem lk_X5_1 : Cond.methodLink RX5 1 objectInit ∈ lw_tbl := List.mem_of_getElem? (i := 70) (by decide +kernel)
theorem fl_X5_7 : Cond.fieldLink RX5 7 "RoastKeeper$Settings" "ambient" "I" ∈ lw_tbl := List.mem_of_getElem? (i := 71) (by decide +kernel)
theorem fl_X9_82 : Cond.fieldLink RX9 82 "RoastKeeper$Settings" "ambient" "I" ∈ lw_tbl := List.mem_of_getElem? (i := 72) (by decide +kernel)
theorem fl_X4_51 : Cond.fieldLink RX4 51 "RoastKeeper$Settings" "ambient" "I" ∈ lw_tbl := List.mem_of_getElem? (i := 73) (by decide +kernel)
theorem fl_X5_13 : Cond.fieldLink RX5 13 "RoastKeeper$Settings" "controllerOn" "I" ∈ lw_tbl := List.mem_of_getElem? (i := 74) (by decide +kernel)
theorem fl_X9_91 : Cond.fieldLink RX9 91 "RoastKeeper$Settings" "controllerOn" "I" ∈ lw_tbl := List.mem_of_getElem? (i := 75) (by decide +kernel)
theorem fl_X4_105 : Cond.fieldLink RX4 105 "RoastKeeper$Settings" "controllerOn" "I" ∈ lw_tbl := List.mem_of_getElem? (i := 76) (by decide +kernel)
theorem fl_X5_16 : Cond.fieldLink RX5 16 "RoastKeeper$Settings" "p" "I" ∈ lw_tbl := List.mem_of_getElem? (i := 77) (by decide +kernel)
theorem fl_X9_94 : Cond.fieldLink RX9 94 "RoastKeeper$Settings" "p" "I" ∈ lw_tbl := List.mem_of_getElem? (i := 78) (by decide +kernel)
theorem fl_X4_121 : Cond.fieldLink RX4 121 "RoastKeeper$Settings" "p" "I" ∈ lw_tbl := List.mem_of_getElem? (i := 79) (by decide +kernel)
theorem fl_X5_19 : Cond.fieldLink RX5 19 "RoastKeeper$Settings" "i" "I" ∈ lw_tbl := List.mem_of_getElem? (i := 80) (by decide +kernel)
theorem fl_X9_97 : Cond.fieldLink RX9 97 "RoastKeeper$Settings" "i" "I" ∈ lw_tbl := List.mem_of_getElem? (i := 81) (by decide +kernel)
theorem fl_X4_130 : Cond.fieldLink RX4 130 "RoastKeeper$Settings" "i" "I" ∈ lw_tbl := List.mem_of_getElem? (i := 82) (by decide +kernel)
theorem fl_X5_22 : Cond.fieldLink RX5 22 "RoastKeeper$Settings" "bias" "I" ∈ lw_tbl := List.mem_of_getElem? (i := 83) (by decide +kernel)
theorem fl_X9_100 : Cond.fieldLink RX9 100 "RoastKeeper$Settings" "bias" "I" ∈ lw_tbl := List.mem_of_getElem? (i := 84) (by decide +kernel)
theorem fl_X4_118 : Cond.fieldLink RX4 118 "RoastKeeper$Settings" "bias" "I" ∈ lw_tbl := List.mem_of_getElem? (i := 85) (by decide +kernel)
theorem fl_X5_25 : Cond.fieldLink RX5 25 "RoastKeeper$Settings" "lag" "I" ∈ lw_tbl := List.mem_of_getElem? (i := 86) (by decide +kernel)
theorem fl_X9_103 : Cond.fieldLink RX9 103 "RoastKeeper$Settings" "lag" "I" ∈ lw_tbl := List.mem_of_getElem? (i := 87) (by decide +kernel)
theorem fl_X4_136 : Cond.fieldLink RX4 136 "RoastKeeper$Settings" "lag" "I" ∈ lw_tbl := List.mem_of_getElem? (i := 88) (by decide +kernel)
theorem fl_X5_28 : Cond.fieldLink RX5 28 "RoastKeeper$Settings" "fouling" "I" ∈ lw_tbl := List.mem_of_getElem? (i := 89) (by decide +kernel)
theorem fl_X9_106 : Cond.fieldLink RX9 106 "RoastKeeper$Settings" "fouling" "I" ∈ lw_tbl := List.mem_of_getElem? (i := 90) (by decide +kernel)
theorem fl_X5_31 : Cond.fieldLink RX5 31 "RoastKeeper$Settings" "crackTemperature" "I" ∈ lw_tbl := List.mem_of_getElem? (i := 91) (by decide +kernel)
theorem fl_X4_72 : Cond.fieldLink RX4 72 "RoastKeeper$Settings" "crackTemperature" "I" ∈ lw_tbl := List.mem_of_getElem? (i := 92) (by decide +kernel)
theorem fl_X9_109 : Cond.fieldLink RX9 109 "RoastKeeper$Settings" "crackTemperature" "I" ∈ lw_tbl := List.mem_of_getElem? (i := 93) (by decide +kernel)
theorem fl_X5_34 : Cond.fieldLink RX5 34 "RoastKeeper$Settings" "threshold" "I" ∈ lw_tbl := List.mem_of_getElem? (i := 94) (by decide +kernel)
theorem fl_X4_99 : Cond.fieldLink RX4 99 "RoastKeeper$Settings" "threshold" "I" ∈ lw_tbl := List.mem_of_getElem? (i := 95) (by decide +kernel)
theorem fl_X9_112 : Cond.fieldLink RX9 112 "RoastKeeper$Settings" "threshold" "I" ∈ lw_tbl := List.mem_of_getElem? (i := 96) (by decide +kernel)
theorem fl_X5_37 : Cond.fieldLink RX5 37 "RoastKeeper$Settings" "fan" "I" ∈ lw_tbl := List.mem_of_getElem? (i := 97) (by decide +kernel)
theorem fl_X4_90 : Cond.fieldLink RX4 90 "RoastKeeper$Settings" "fan" "I" ∈ lw_tbl := List.mem_of_getElem? (i := 98) (by decide +kernel)
theorem fl_X9_115 : Cond.fieldLink RX9 115 "RoastKeeper$Settings" "fan" "I" ∈ lw_tbl := List.mem_of_getElem? (i := 99) (by decide +kernel)
theorem ln_X4_20 : Cond.methodLinkNest RX4 20 yX0_init RX9 ∈ lw_tbl := List.mem_of_getElem? (i := 123) (by decide +kernel)
theorem mf_X0_init : MF yX0_init cX0_init 1 none 0 := ⟨List.mem_of_getElem? (i := 125) (by decide +kernel), List.mem_of_getElem? (i := 36) (by decide +kernel), ⟨by decide +kernel, by decide +kernel⟩, by decide +kernel, by decide +kernel⟩
theorem mi_X0_init : Cond.instanceMethod yX0_init ∈ lw_tbl := List.mem_of_getElem? (i := 124) (by decide +kernel)
theorem lk_X0_3 : Cond.methodLink RX0 3 objectInit ∈ lw_tbl := List.mem_of_getElem? (i := 126) (by decide +kernel)
theorem kc_X0_31 : Cond.constant RX0 31 (-100009) ∈ lw_tbl := List.mem_of_getElem? (i := 127) (by decide +kernel)
theorem fl_X0_9 : Cond.fieldLink RX0 9 "RoastKeeper$Beans" "temperature" "I" ∈ lw_tbl := List.mem_of_getElem? (i := 128) (by decide +kernel)
theorem fl_X4_81 : Cond.fieldLink RX4 81 "RoastKeeper$Beans" "temperature" "I" ∈ lw_tbl := List.mem_of_getElem? (i := 129) (by decide +kernel)
theorem fl_X9_186 : Cond.fieldLink RX9 186 "RoastKeeper$Beans" "temperature" "I" ∈ lw_tbl := List.mem_of_getElem? (i := 130) (by decide +kernel)
theorem fl_X0_15 : Cond.fieldLink RX0 15 "RoastKeeper$Beans" "mass" "I" ∈ lw_tbl := List.mem_of_getElem? (i := 131) (by decide +kernel)
theorem fl_X4_133 : Cond.fieldLink RX4 133 "RoastKeeper$Beans" "mass" "I" ∈ lw_tbl := List.mem_of_getElem? (i := 132) (by decide +kernel)
theorem fl_X0_18 : Cond.fieldLink RX0 18 "RoastKeeper$Beans" "age" "I" ∈ lw_tbl := List.mem_of_getElem? (i := 133) (by decide +kernel)
theorem fl_X2_40 : Cond.fieldLink RX2 40 "RoastKeeper$Beans" "age" "I" ∈ lw_tbl := List.mem_of_getElem? (i := 134) (by decide +kernel)
theorem fl_X4_58 : Cond.fieldLink RX4 58 "RoastKeeper$Beans" "age" "I" ∈ lw_tbl := List.mem_of_getElem? (i := 135) (by decide +kernel)
theorem fl_X9_227 : Cond.fieldLink RX9 227 "RoastKeeper$Beans" "age" "I" ∈ lw_tbl := List.mem_of_getElem? (i := 136) (by decide +kernel)
theorem fl_X0_21 : Cond.fieldLink RX0 21 "RoastKeeper$Beans" "loss" "I" ∈ lw_tbl := List.mem_of_getElem? (i := 137) (by decide +kernel)
theorem fl_X2_51 : Cond.fieldLink RX2 51 "RoastKeeper$Beans" "loss" "I" ∈ lw_tbl := List.mem_of_getElem? (i := 138) (by decide +kernel)
theorem fl_X4_78 : Cond.fieldLink RX4 78 "RoastKeeper$Beans" "loss" "I" ∈ lw_tbl := List.mem_of_getElem? (i := 139) (by decide +kernel)
theorem fl_X9_181 : Cond.fieldLink RX9 181 "RoastKeeper$Beans" "loss" "I" ∈ lw_tbl := List.mem_of_getElem? (i := 140) (by decide +kernel)
theorem fl_X0_24 : Cond.fieldLink RX0 24 "RoastKeeper$Beans" "pops" "I" ∈ lw_tbl := List.mem_of_getElem? (i := 141) (by decide +kernel)
theorem fl_X0_27 : Cond.fieldLink RX0 27 "RoastKeeper$Beans" "recentPops" "[I" ∈ lw_tbl := List.mem_of_getElem? (i := 142) (by decide +kernel)
theorem fl_X0_32 : Cond.fieldLink RX0 32 "RoastKeeper$Beans" "crackAt" "I" ∈ lw_tbl := List.mem_of_getElem? (i := 143) (by decide +kernel)
theorem fl_X2_45 : Cond.fieldLink RX2 45 "RoastKeeper$Beans" "crackAt" "I" ∈ lw_tbl := List.mem_of_getElem? (i := 144) (by decide +kernel)
theorem fl_X0_35 : Cond.fieldLink RX0 35 "RoastKeeper$Beans" "endedAt" "I" ∈ lw_tbl := List.mem_of_getElem? (i := 145) (by decide +kernel)
theorem fl_X2_48 : Cond.fieldLink RX2 48 "RoastKeeper$Beans" "endedAt" "I" ∈ lw_tbl := List.mem_of_getElem? (i := 146) (by decide +kernel)
theorem fl_X0_38 : Cond.fieldLink RX0 38 "RoastKeeper$Beans" "hottest" "I" ∈ lw_tbl := List.mem_of_getElem? (i := 147) (by decide +kernel)
theorem fl_X2_54 : Cond.fieldLink RX2 54 "RoastKeeper$Beans" "hottest" "I" ∈ lw_tbl := List.mem_of_getElem? (i := 148) (by decide +kernel)
theorem fl_X4_12 : Cond.fieldLink RX4 12 "RoastKeeper$Roaster" "settings" "LRoastKeeper$Settings;" ∈ lw_tbl := List.mem_of_getElem? (i := 169) (by decide +kernel)
theorem fl_X9_21 : Cond.fieldLink RX9 21 "RoastKeeper$Roaster" "settings" "LRoastKeeper$Settings;" ∈ lw_tbl := List.mem_of_getElem? (i := 170) (by decide +kernel)
theorem fl_X4_21 : Cond.fieldLink RX4 21 "RoastKeeper$Roaster" "beans" "LRoastKeeper$Beans;" ∈ lw_tbl := List.mem_of_getElem? (i := 171) (by decide +kernel)
theorem fl_X9_165 : Cond.fieldLink RX9 165 "RoastKeeper$Roaster" "beans" "LRoastKeeper$Beans;" ∈ lw_tbl := List.mem_of_getElem? (i := 172) (by decide +kernel)
theorem fl_X4_25 : Cond.fieldLink RX4 25 "RoastKeeper$Roaster" "time" "I" ∈ lw_tbl := List.mem_of_getElem? (i := 173) (by decide +kernel)
theorem fl_X9_189 : Cond.fieldLink RX9 189 "RoastKeeper$Roaster" "time" "I" ∈ lw_tbl := List.mem_of_getElem? (i := 174) (by decide +kernel)
theorem fl_X4_29 : Cond.fieldLink RX4 29 "RoastKeeper$Roaster" "phase" "I" ∈ lw_tbl := List.mem_of_getElem? (i := 175) (by decide +kernel)
theorem fl_X9_156 : Cond.fieldLink RX9 156 "RoastKeeper$Roaster" "phase" "I" ∈ lw_tbl := List.mem_of_getElem? (i := 176) (by decide +kernel)
theorem fl_X4_32 : Cond.fieldLink RX4 32 "RoastKeeper$Roaster" "drum" "I" ∈ lw_tbl := List.mem_of_getElem? (i := 177) (by decide +kernel)
theorem fl_X9_162 : Cond.fieldLink RX9 162 "RoastKeeper$Roaster" "drum" "I" ∈ lw_tbl := List.mem_of_getElem? (i := 178) (by decide +kernel)
theorem fl_X4_35 : Cond.fieldLink RX4 35 "RoastKeeper$Roaster" "probe" "I" ∈ lw_tbl := List.mem_of_getElem? (i := 179) (by decide +kernel)
theorem fl_X9_196 : Cond.fieldLink RX9 196 "RoastKeeper$Roaster" "probe" "I" ∈ lw_tbl := List.mem_of_getElem? (i := 180) (by decide +kernel)
theorem fl_X4_38 : Cond.fieldLink RX4 38 "RoastKeeper$Roaster" "power" "I" ∈ lw_tbl := List.mem_of_getElem? (i := 181) (by decide +kernel)
theorem fl_X9_88 : Cond.fieldLink RX9 88 "RoastKeeper$Roaster" "power" "I" ∈ lw_tbl := List.mem_of_getElem? (i := 182) (by decide +kernel)
theorem fl_X4_41 : Cond.fieldLink RX4 41 "RoastKeeper$Roaster" "sum" "I" ∈ lw_tbl := List.mem_of_getElem? (i := 183) (by decide +kernel)
theorem fl_X9_203 : Cond.fieldLink RX9 203 "RoastKeeper$Roaster" "sum" "I" ∈ lw_tbl := List.mem_of_getElem? (i := 184) (by decide +kernel)
theorem lk_X7_20 : Cond.methodLink RX7 20 yX6_init ∈ lw_tbl := List.mem_of_getElem? (i := 204) (by decide +kernel)
theorem mf_X6_init : MF yX6_init cX6_init 2 none 1 := ⟨List.mem_of_getElem? (i := 206) (by decide +kernel), List.mem_of_getElem? (i := 37) (by decide +kernel), ⟨by decide +kernel, by decide +kernel⟩, by decide +kernel, by decide +kernel⟩
theorem mi_X6_init : Cond.instanceMethod yX6_init ∈ lw_tbl := List.mem_of_getElem? (i := 205) (by decide +kernel)
theorem lk_X6_1 : Cond.methodLink RX6 1 objectInit ∈ lw_tbl := List.mem_of_getElem? (i := 207) (by decide +kernel)
theorem lk_X6_13 : Cond.methodLink RX6 13 yJ9_max_7cf53 ∈ lw_tbl := List.mem_of_getElem? (i := 208) (by decide +kernel)
theorem ms_J9_max_7cf53 : Cond.static yJ9_max_7cf53 ∈ lw_tbl := List.mem_of_getElem? (i := 209) (by decide +kernel)
theorem mf_J9_max_7cf53 : MF yJ9_max_7cf53 cJ9_max_7cf53 2 (some .int) 2 := ⟨List.mem_of_getElem? (i := 210) (by decide +kernel), List.mem_of_getElem? (i := 38) (by decide +kernel), ⟨by decide +kernel, by decide +kernel⟩, by decide +kernel, by decide +kernel⟩
theorem fl_X6_19 : Cond.fieldLink RX6 19 "RoastKeeper$SortedRows" "keys" "[I" ∈ lw_tbl := List.mem_of_getElem? (i := 211) (by decide +kernel)
theorem fl_X6_23 : Cond.fieldLink RX6 23 "RoastKeeper$SortedRows" "values" "[I" ∈ lw_tbl := List.mem_of_getElem? (i := 212) (by decide +kernel)
theorem fl_X6_7 : Cond.fieldLink RX6 7 "RoastKeeper$SortedRows" "size" "I" ∈ lw_tbl := List.mem_of_getElem? (i := 213) (by decide +kernel)
theorem fl_X3_24 : Cond.fieldLink RX3 24 "RoastKeeper$SortedRows" "size" "I" ∈ lw_tbl := List.mem_of_getElem? (i := 214) (by decide +kernel)
theorem fl_X4_108 : Cond.fieldLink RX4 108 "RoastKeeper$SortedRows" "size" "I" ∈ lw_tbl := List.mem_of_getElem? (i := 215) (by decide +kernel)
theorem fl_X9_123 : Cond.fieldLink RX9 123 "RoastKeeper$SortedRows" "size" "I" ∈ lw_tbl := List.mem_of_getElem? (i := 216) (by decide +kernel)
theorem ln_X7_32 : Cond.methodLinkNest RX7 32 yX2_init RX9 ∈ lw_tbl := List.mem_of_getElem? (i := 226) (by decide +kernel)
theorem mf_X2_init : MF yX2_init cX2_init 1 none 0 := ⟨List.mem_of_getElem? (i := 228) (by decide +kernel), List.mem_of_getElem? (i := 39) (by decide +kernel), ⟨by decide +kernel, by decide +kernel⟩, by decide +kernel, by decide +kernel⟩
theorem mi_X2_init : Cond.instanceMethod yX2_init ∈ lw_tbl := List.mem_of_getElem? (i := 227) (by decide +kernel)
theorem lk_X2_3 : Cond.methodLink RX2 3 objectInit ∈ lw_tbl := List.mem_of_getElem? (i := 229) (by decide +kernel)
theorem fl_X2_9 : Cond.fieldLink RX2 9 "RoastKeeper$Log" "entries" "[I" ∈ lw_tbl := List.mem_of_getElem? (i := 230) (by decide +kernel)
theorem fl_X2_15 : Cond.fieldLink RX2 15 "RoastKeeper$Log" "size" "I" ∈ lw_tbl := List.mem_of_getElem? (i := 231) (by decide +kernel)
theorem fl_X9_206 : Cond.fieldLink RX9 206 "RoastKeeper$Log" "size" "I" ∈ lw_tbl := List.mem_of_getElem? (i := 232) (by decide +kernel)
theorem fl_X2_19 : Cond.fieldLink RX2 19 "RoastKeeper$Log" "dropped" "I" ∈ lw_tbl := List.mem_of_getElem? (i := 233) (by decide +kernel)
theorem fl_X7_12 : Cond.fieldLink RX7 12 "RoastKeeper$State" "roaster" "LRoastKeeper$Roaster;" ∈ lw_tbl := List.mem_of_getElem? (i := 241) (by decide +kernel)
theorem fl_X9_16 : Cond.fieldLink RX9 16 "RoastKeeper$State" "roaster" "LRoastKeeper$Roaster;" ∈ lw_tbl := List.mem_of_getElem? (i := 242) (by decide +kernel)
theorem fl_X7_23 : Cond.fieldLink RX7 23 "RoastKeeper$State" "profile" "LRoastKeeper$SortedRows;" ∈ lw_tbl := List.mem_of_getElem? (i := 243) (by decide +kernel)
theorem fl_X9_28 : Cond.fieldLink RX9 28 "RoastKeeper$State" "profile" "LRoastKeeper$SortedRows;" ∈ lw_tbl := List.mem_of_getElem? (i := 244) (by decide +kernel)
theorem fl_X7_27 : Cond.fieldLink RX7 27 "RoastKeeper$State" "losses" "LRoastKeeper$SortedRows;" ∈ lw_tbl := List.mem_of_getElem? (i := 245) (by decide +kernel)
theorem fl_X9_33 : Cond.fieldLink RX9 33 "RoastKeeper$State" "losses" "LRoastKeeper$SortedRows;" ∈ lw_tbl := List.mem_of_getElem? (i := 246) (by decide +kernel)
theorem fl_X7_33 : Cond.fieldLink RX7 33 "RoastKeeper$State" "log" "LRoastKeeper$Log;" ∈ lw_tbl := List.mem_of_getElem? (i := 247) (by decide +kernel)
theorem fl_X9_37 : Cond.fieldLink RX9 37 "RoastKeeper$State" "log" "LRoastKeeper$Log;" ∈ lw_tbl := List.mem_of_getElem? (i := 248) (by decide +kernel)
theorem lk_X9_44 : Cond.methodLink RX9 44 yX1_init ∈ lw_tbl := List.mem_of_getElem? (i := 260) (by decide +kernel)
theorem mf_X1_init : MF yX1_init cX1_init 2 none 0 := ⟨List.mem_of_getElem? (i := 262) (by decide +kernel), List.mem_of_getElem? (i := 40) (by decide +kernel), ⟨by decide +kernel, by decide +kernel⟩, by decide +kernel, by decide +kernel⟩
theorem mi_X1_init : Cond.instanceMethod yX1_init ∈ lw_tbl := List.mem_of_getElem? (i := 261) (by decide +kernel)
theorem lk_X1_3 : Cond.methodLink RX1 3 objectInit ∈ lw_tbl := List.mem_of_getElem? (i := 263) (by decide +kernel)
theorem ln_X1_24 : Cond.methodLinkNest RX1 24 yX7_init RX9 ∈ lw_tbl := List.mem_of_getElem? (i := 266) (by decide +kernel)
theorem fl_X1_11 : Cond.fieldLink RX1 11 "RoastKeeper$History" "states" "[LRoastKeeper$State;" ∈ lw_tbl := List.mem_of_getElem? (i := 267) (by decide +kernel)
theorem fl_X1_17 : Cond.fieldLink RX1 17 "RoastKeeper$History" "oldest" "I" ∈ lw_tbl := List.mem_of_getElem? (i := 268) (by decide +kernel)
theorem fl_X1_21 : Cond.fieldLink RX1 21 "RoastKeeper$History" "size" "I" ∈ lw_tbl := List.mem_of_getElem? (i := 269) (by decide +kernel)
theorem fl_X9_199 : Cond.fieldLink RX9 199 "RoastKeeper$History" "size" "I" ∈ lw_tbl := List.mem_of_getElem? (i := 270) (by decide +kernel)
theorem ln_X9_51 : Cond.methodLinkNest RX9 51 yX8_init RX9 ∈ lw_tbl := List.mem_of_getElem? (i := 280) (by decide +kernel)
theorem mf_X8_init : MF yX8_init cX8_init 1 none 0 := ⟨List.mem_of_getElem? (i := 282) (by decide +kernel), List.mem_of_getElem? (i := 41) (by decide +kernel), ⟨by decide +kernel, by decide +kernel⟩, by decide +kernel, by decide +kernel⟩
theorem mi_X8_init : Cond.instanceMethod yX8_init ∈ lw_tbl := List.mem_of_getElem? (i := 281) (by decide +kernel)
theorem lk_X8_3 : Cond.methodLink RX8 3 objectInit ∈ lw_tbl := List.mem_of_getElem? (i := 283) (by decide +kernel)
theorem fl_X8_9 : Cond.fieldLink RX8 9 "RoastKeeper$Text" "characters" "[I" ∈ lw_tbl := List.mem_of_getElem? (i := 284) (by decide +kernel)
theorem fl_X8_15 : Cond.fieldLink RX8 15 "RoastKeeper$Text" "length" "I" ∈ lw_tbl := List.mem_of_getElem? (i := 285) (by decide +kernel)
theorem fl_X3_33 : Cond.fieldLink RX3 33 "RoastKeeper$Text" "length" "I" ∈ lw_tbl := List.mem_of_getElem? (i := 286) (by decide +kernel)
theorem fl_X9_138 : Cond.fieldLink RX9 138 "RoastKeeper$Text" "length" "I" ∈ lw_tbl := List.mem_of_getElem? (i := 287) (by decide +kernel)
theorem ln_X9_58 : Cond.methodLinkNest RX9 58 yX3_init RX9 ∈ lw_tbl := List.mem_of_getElem? (i := 295) (by decide +kernel)
theorem mf_X3_init : MF yX3_init cX3_init 1 none 0 := ⟨List.mem_of_getElem? (i := 297) (by decide +kernel), List.mem_of_getElem? (i := 42) (by decide +kernel), ⟨by decide +kernel, by decide +kernel⟩, by decide +kernel, by decide +kernel⟩
theorem mi_X3_init : Cond.instanceMethod yX3_init ∈ lw_tbl := List.mem_of_getElem? (i := 296) (by decide +kernel)
theorem lk_X3_3 : Cond.methodLink RX3 3 objectInit ∈ lw_tbl := List.mem_of_getElem? (i := 298) (by decide +kernel)
theorem lk_X3_11 : Cond.methodLink RX3 11 yX6_init ∈ lw_tbl := List.mem_of_getElem? (i := 300) (by decide +kernel)
theorem fl_X3_14 : Cond.fieldLink RX3 14 "RoastKeeper$ProfileReader" "points" "LRoastKeeper$SortedRows;" ∈ lw_tbl := List.mem_of_getElem? (i := 301) (by decide +kernel)
theorem fl_X9_149 : Cond.fieldLink RX9 149 "RoastKeeper$ProfileReader" "points" "LRoastKeeper$SortedRows;" ∈ lw_tbl := List.mem_of_getElem? (i := 302) (by decide +kernel)
theorem fl_X3_20 : Cond.fieldLink RX3 20 "RoastKeeper$ProfileReader" "tick" "I" ∈ lw_tbl := List.mem_of_getElem? (i := 303) (by decide +kernel)
theorem ln_X9_63 : Cond.methodLinkNest RX9 63 yX4_init RX9 ∈ lw_tbl := List.mem_of_getElem? (i := 310) (by decide +kernel)
theorem lk_X9_67 : Cond.methodLink RX9 67 yX6_set ∈ lw_tbl := List.mem_of_getElem? (i := 311) (by decide +kernel)
theorem mf_X6_set : MF yX6_set cX6_set 4 none 2 := ⟨List.mem_of_getElem? (i := 314) (by decide +kernel), List.mem_of_getElem? (i := 37) (by decide +kernel), ⟨by decide +kernel, by decide +kernel⟩, by decide +kernel, by decide +kernel⟩
theorem mv_X6_set : MV yX6_set := ⟨List.mem_of_getElem? (i := 312) (by decide +kernel), List.mem_of_getElem? (i := 313) (by decide +kernel)⟩
theorem lk_X6_39 : Cond.methodLink RX6 39 yX6_indexBelow ∈ lw_tbl := List.mem_of_getElem? (i := 315) (by decide +kernel)
theorem mf_X6_indexBelow : MF yX6_indexBelow cX6_indexBelow 4 (some .int) 1 := ⟨List.mem_of_getElem? (i := 318) (by decide +kernel), List.mem_of_getElem? (i := 37) (by decide +kernel), ⟨by decide +kernel, by decide +kernel⟩, by decide +kernel, by decide +kernel⟩
theorem mv_X6_indexBelow : MV yX6_indexBelow := ⟨List.mem_of_getElem? (i := 316) (by decide +kernel), List.mem_of_getElem? (i := 317) (by decide +kernel)⟩
theorem ln_X6_35 : Cond.methodLinkNest RX6 35 yX9_at RX9 ∈ lw_tbl := List.mem_of_getElem? (i := 319) (by decide +kernel)
theorem ms_X9_at : Cond.static yX9_at ∈ lw_tbl := List.mem_of_getElem? (i := 320) (by decide +kernel)
theorem mf_X9_at : MF yX9_at cX9_at 2 (some .int) 2 := ⟨List.mem_of_getElem? (i := 321) (by decide +kernel), List.mem_of_getElem? (i := 32) (by decide +kernel), ⟨by decide +kernel, by decide +kernel⟩, by decide +kernel, by decide +kernel⟩
theorem ln_X6_47 : Cond.methodLinkNest RX6 47 yX9_put RX9 ∈ lw_tbl := List.mem_of_getElem? (i := 322) (by decide +kernel)
theorem ms_X9_put : Cond.static yX9_put ∈ lw_tbl := List.mem_of_getElem? (i := 323) (by decide +kernel)
theorem mf_X9_put : MF yX9_put cX9_put 3 none 3 := ⟨List.mem_of_getElem? (i := 324) (by decide +kernel), List.mem_of_getElem? (i := 32) (by decide +kernel), ⟨by decide +kernel, by decide +kernel⟩, by decide +kernel, by decide +kernel⟩
theorem lk_X6_51 : Cond.methodLink RX6 51 yX6_insert ∈ lw_tbl := List.mem_of_getElem? (i := 325) (by decide +kernel)
theorem mf_X6_insert : MF yX6_insert cX6_insert 5 none 3 := ⟨List.mem_of_getElem? (i := 328) (by decide +kernel), List.mem_of_getElem? (i := 37) (by decide +kernel), ⟨by decide +kernel, by decide +kernel⟩, by decide +kernel, by decide +kernel⟩
theorem mv_X6_insert : MV yX6_insert := ⟨List.mem_of_getElem? (i := 327) (by decide +kernel), List.mem_of_getElem? (i := 0) (by decide +kernel)⟩
theorem fl_X9_10 : Cond.fieldLink RX9 10 "RoastKeeper" "now" "LRoastKeeper$State;" ∈ lw_tbl := List.mem_of_getElem? (i := 329) (by decide +kernel)
theorem fl_X9_20 : Cond.fieldLink RX9 20 "RoastKeeper" "roaster" "LRoastKeeper$Roaster;" ∈ lw_tbl := List.mem_of_getElem? (i := 330) (by decide +kernel)
theorem fl_X9_27 : Cond.fieldLink RX9 27 "RoastKeeper" "settings" "LRoastKeeper$Settings;" ∈ lw_tbl := List.mem_of_getElem? (i := 331) (by decide +kernel)
theorem fl_X9_32 : Cond.fieldLink RX9 32 "RoastKeeper" "profile" "LRoastKeeper$SortedRows;" ∈ lw_tbl := List.mem_of_getElem? (i := 332) (by decide +kernel)
theorem fl_X9_36 : Cond.fieldLink RX9 36 "RoastKeeper" "losses" "LRoastKeeper$SortedRows;" ∈ lw_tbl := List.mem_of_getElem? (i := 333) (by decide +kernel)
theorem fl_X9_41 : Cond.fieldLink RX9 41 "RoastKeeper" "log" "LRoastKeeper$Log;" ∈ lw_tbl := List.mem_of_getElem? (i := 334) (by decide +kernel)
theorem fl_X9_45 : Cond.fieldLink RX9 45 "RoastKeeper" "history" "LRoastKeeper$History;" ∈ lw_tbl := List.mem_of_getElem? (i := 335) (by decide +kernel)
theorem fl_X9_52 : Cond.fieldLink RX9 52 "RoastKeeper" "text" "LRoastKeeper$Text;" ∈ lw_tbl := List.mem_of_getElem? (i := 336) (by decide +kernel)
theorem fl_X9_59 : Cond.fieldLink RX9 59 "RoastKeeper" "reader" "LRoastKeeper$ProfileReader;" ∈ lw_tbl := List.mem_of_getElem? (i := 337) (by decide +kernel)
theorem fl_X9_64 : Cond.fieldLink RX9 64 "RoastKeeper" "trial" "LRoastKeeper$Roaster;" ∈ lw_tbl := List.mem_of_getElem? (i := 338) (by decide +kernel)
theorem lk_L_13 : Cond.methodLink RL 13 yX9_setAmbient ∈ lw_tbl := List.mem_of_getElem? (i := 360) (by decide +kernel)
theorem mf_X9_setAmbient : MF yX9_setAmbient cX9_setAmbient 3 (some .int) 1 := ⟨List.mem_of_getElem? (i := 363) (by decide +kernel), List.mem_of_getElem? (i := 32) (by decide +kernel), ⟨by decide +kernel, by decide +kernel⟩, by decide +kernel, by decide +kernel⟩
theorem mv_X9_setAmbient : MV yX9_setAmbient := ⟨List.mem_of_getElem? (i := 361) (by decide +kernel), List.mem_of_getElem? (i := 362) (by decide +kernel)⟩
theorem lk_X9_73 : Cond.methodLink RX9 73 yX9_inRange ∈ lw_tbl := List.mem_of_getElem? (i := 364) (by decide +kernel)
theorem ms_X9_inRange : Cond.static yX9_inRange ∈ lw_tbl := List.mem_of_getElem? (i := 365) (by decide +kernel)
theorem mf_X9_inRange : MF yX9_inRange cX9_inRange 3 (some .boolean) 3 := ⟨List.mem_of_getElem? (i := 366) (by decide +kernel), List.mem_of_getElem? (i := 32) (by decide +kernel), ⟨by decide +kernel, by decide +kernel⟩, by decide +kernel, by decide +kernel⟩
theorem kc_X9_77 : Cond.constant RX9 77 (-100001) ∈ lw_tbl := List.mem_of_getElem? (i := 367) (by decide +kernel)
theorem lk_X9_78 : Cond.methodLink RX9 78 yX1_remember ∈ lw_tbl := List.mem_of_getElem? (i := 368) (by decide +kernel)
theorem mf_X1_remember : MF yX1_remember cX1_remember 3 none 1 := ⟨List.mem_of_getElem? (i := 371) (by decide +kernel), List.mem_of_getElem? (i := 40) (by decide +kernel), ⟨by decide +kernel, by decide +kernel⟩, by decide +kernel, by decide +kernel⟩
theorem mv_X1_remember : MV yX1_remember := ⟨List.mem_of_getElem? (i := 369) (by decide +kernel), List.mem_of_getElem? (i := 370) (by decide +kernel)⟩
theorem lk_X1_25 : Cond.methodLink RX1 25 yX1_slot ∈ lw_tbl := List.mem_of_getElem? (i := 372) (by decide +kernel)
theorem mf_X1_slot : MF yX1_slot cX1_slot 3 (some (.object "RoastKeeper$State")) 1 := ⟨List.mem_of_getElem? (i := 375) (by decide +kernel), List.mem_of_getElem? (i := 40) (by decide +kernel), ⟨by decide +kernel, by decide +kernel⟩, by decide +kernel, by decide +kernel⟩
theorem mv_X1_slot : MV yX1_slot := ⟨List.mem_of_getElem? (i := 374) (by decide +kernel), List.mem_of_getElem? (i := 1) (by decide +kernel)⟩
theorem lk_X1_33 : Cond.methodLink RX1 33 yJ9_floorMod_7cf53 ∈ lw_tbl := List.mem_of_getElem? (i := 376) (by decide +kernel)
theorem ms_J9_floorMod_7cf53 : Cond.static yJ9_floorMod_7cf53 ∈ lw_tbl := List.mem_of_getElem? (i := 377) (by decide +kernel)
theorem mf_J9_floorMod_7cf53 : MF yJ9_floorMod_7cf53 cJ9_floorMod_7cf53 3 (some .int) 2 := ⟨List.mem_of_getElem? (i := 378) (by decide +kernel), List.mem_of_getElem? (i := 38) (by decide +kernel), ⟨by decide +kernel, by decide +kernel⟩, by decide +kernel, by decide +kernel⟩
theorem lk_X1_29 : Cond.methodLink RX1 29 yX7_copyFrom ∈ lw_tbl := List.mem_of_getElem? (i := 379) (by decide +kernel)
theorem mf_X7_copyFrom : MF yX7_copyFrom cX7_copyFrom 2 none 1 := ⟨List.mem_of_getElem? (i := 382) (by decide +kernel), List.mem_of_getElem? (i := 33) (by decide +kernel), ⟨by decide +kernel, by decide +kernel⟩, by decide +kernel, by decide +kernel⟩
theorem mv_X7_copyFrom : MV yX7_copyFrom := ⟨List.mem_of_getElem? (i := 380) (by decide +kernel), List.mem_of_getElem? (i := 381) (by decide +kernel)⟩
theorem lk_X7_37 : Cond.methodLink RX7 37 yX4_copyFrom ∈ lw_tbl := List.mem_of_getElem? (i := 383) (by decide +kernel)
theorem mf_X4_copyFrom : MF yX4_copyFrom cX4_copyFrom 2 none 1 := ⟨List.mem_of_getElem? (i := 386) (by decide +kernel), List.mem_of_getElem? (i := 34) (by decide +kernel), ⟨by decide +kernel, by decide +kernel⟩, by decide +kernel, by decide +kernel⟩
theorem mv_X4_copyFrom : MV yX4_copyFrom := ⟨List.mem_of_getElem? (i := 384) (by decide +kernel), List.mem_of_getElem? (i := 385) (by decide +kernel)⟩
theorem lk_X4_44 : Cond.methodLink RX4 44 yX5_copyFrom ∈ lw_tbl := List.mem_of_getElem? (i := 387) (by decide +kernel)
theorem mf_X5_copyFrom : MF yX5_copyFrom cX5_copyFrom 2 none 1 := ⟨List.mem_of_getElem? (i := 390) (by decide +kernel), List.mem_of_getElem? (i := 35) (by decide +kernel), ⟨by decide +kernel, by decide +kernel⟩, by decide +kernel, by decide +kernel⟩
theorem mv_X5_copyFrom : MV yX5_copyFrom := ⟨List.mem_of_getElem? (i := 388) (by decide +kernel), List.mem_of_getElem? (i := 389) (by decide +kernel)⟩
theorem lk_X4_48 : Cond.methodLink RX4 48 yX0_copyFrom ∈ lw_tbl := List.mem_of_getElem? (i := 391) (by decide +kernel)
theorem mf_X0_copyFrom : MF yX0_copyFrom cX0_copyFrom 2 none 1 := ⟨List.mem_of_getElem? (i := 394) (by decide +kernel), List.mem_of_getElem? (i := 36) (by decide +kernel), ⟨by decide +kernel, by decide +kernel⟩, by decide +kernel, by decide +kernel⟩
theorem mv_X0_copyFrom : MV yX0_copyFrom := ⟨List.mem_of_getElem? (i := 392) (by decide +kernel), List.mem_of_getElem? (i := 393) (by decide +kernel)⟩
theorem ln_X0_41 : Cond.methodLinkNest RX0 41 yX9_copyRow RX9 ∈ lw_tbl := List.mem_of_getElem? (i := 395) (by decide +kernel)
theorem ms_X9_copyRow : Cond.static yX9_copyRow ∈ lw_tbl := List.mem_of_getElem? (i := 396) (by decide +kernel)
theorem mf_X9_copyRow : MF yX9_copyRow cX9_copyRow 2 none 2 := ⟨List.mem_of_getElem? (i := 397) (by decide +kernel), List.mem_of_getElem? (i := 32) (by decide +kernel), ⟨by decide +kernel, by decide +kernel⟩, by decide +kernel, by decide +kernel⟩
theorem lk_X9_175 : Cond.methodLink RX9 175 yJ9_min_7cf53 ∈ lw_tbl := List.mem_of_getElem? (i := 398) (by decide +kernel)
theorem ms_J9_min_7cf53 : Cond.static yJ9_min_7cf53 ∈ lw_tbl := List.mem_of_getElem? (i := 399) (by decide +kernel)
theorem mf_J9_min_7cf53 : MF yJ9_min_7cf53 cJ9_min_7cf53 2 (some .int) 2 := ⟨List.mem_of_getElem? (i := 400) (by decide +kernel), List.mem_of_getElem? (i := 38) (by decide +kernel), ⟨by decide +kernel, by decide +kernel⟩, by decide +kernel, by decide +kernel⟩
theorem lk_X9_240 : Cond.methodLink RX9 240 arraycopyName ∈ lw_tbl := List.mem_of_getElem? (i := 401) (by decide +kernel)
theorem lk_X7_41 : Cond.methodLink RX7 41 yX6_copyFrom ∈ lw_tbl := List.mem_of_getElem? (i := 404) (by decide +kernel)
theorem mf_X6_copyFrom : MF yX6_copyFrom cX6_copyFrom 2 none 1 := ⟨List.mem_of_getElem? (i := 407) (by decide +kernel), List.mem_of_getElem? (i := 37) (by decide +kernel), ⟨by decide +kernel, by decide +kernel⟩, by decide +kernel, by decide +kernel⟩
theorem mv_X6_copyFrom : MV yX6_copyFrom := ⟨List.mem_of_getElem? (i := 405) (by decide +kernel), List.mem_of_getElem? (i := 406) (by decide +kernel)⟩
theorem ln_X6_26 : Cond.methodLinkNest RX6 26 yX9_copyRow RX9 ∈ lw_tbl := List.mem_of_getElem? (i := 408) (by decide +kernel)
theorem lk_X6_32 : Cond.methodLink RX6 32 yJ9_min_7cf53 ∈ lw_tbl := List.mem_of_getElem? (i := 409) (by decide +kernel)
theorem lk_X7_44 : Cond.methodLink RX7 44 yX2_copyFrom ∈ lw_tbl := List.mem_of_getElem? (i := 410) (by decide +kernel)
theorem mf_X2_copyFrom : MF yX2_copyFrom cX2_copyFrom 2 none 1 := ⟨List.mem_of_getElem? (i := 413) (by decide +kernel), List.mem_of_getElem? (i := 39) (by decide +kernel), ⟨by decide +kernel, by decide +kernel⟩, by decide +kernel, by decide +kernel⟩
theorem mv_X2_copyFrom : MV yX2_copyFrom := ⟨List.mem_of_getElem? (i := 411) (by decide +kernel), List.mem_of_getElem? (i := 412) (by decide +kernel)⟩
theorem ln_X2_22 : Cond.methodLinkNest RX2 22 yX9_copyRow RX9 ∈ lw_tbl := List.mem_of_getElem? (i := 414) (by decide +kernel)
theorem lk_L_18 : Cond.methodLink RL 18 yX9_setPower ∈ lw_tbl := List.mem_of_getElem? (i := 415) (by decide +kernel)
theorem mf_X9_setPower : MF yX9_setPower cX9_setPower 3 (some .int) 1 := ⟨List.mem_of_getElem? (i := 418) (by decide +kernel), List.mem_of_getElem? (i := 32) (by decide +kernel), ⟨by decide +kernel, by decide +kernel⟩, by decide +kernel, by decide +kernel⟩
theorem mv_X9_setPower : MV yX9_setPower := ⟨List.mem_of_getElem? (i := 416) (by decide +kernel), List.mem_of_getElem? (i := 417) (by decide +kernel)⟩
theorem lk_L_22 : Cond.methodLink RL 22 yX9_setController ∈ lw_tbl := List.mem_of_getElem? (i := 419) (by decide +kernel)
theorem mf_X9_setController : MF yX9_setController cX9_setController 6 (some .int) 4 := ⟨List.mem_of_getElem? (i := 422) (by decide +kernel), List.mem_of_getElem? (i := 32) (by decide +kernel), ⟨by decide +kernel, by decide +kernel⟩, by decide +kernel, by decide +kernel⟩
theorem mv_X9_setController : MV yX9_setController := ⟨List.mem_of_getElem? (i := 420) (by decide +kernel), List.mem_of_getElem? (i := 421) (by decide +kernel)⟩
theorem lk_L_27 : Cond.methodLink RL 27 yX9_setProbe ∈ lw_tbl := List.mem_of_getElem? (i := 423) (by decide +kernel)
theorem mf_X9_setProbe : MF yX9_setProbe cX9_setProbe 4 (some .int) 2 := ⟨List.mem_of_getElem? (i := 426) (by decide +kernel), List.mem_of_getElem? (i := 32) (by decide +kernel), ⟨by decide +kernel, by decide +kernel⟩, by decide +kernel, by decide +kernel⟩
theorem mv_X9_setProbe : MV yX9_setProbe := ⟨List.mem_of_getElem? (i := 424) (by decide +kernel), List.mem_of_getElem? (i := 425) (by decide +kernel)⟩
theorem lk_L_32 : Cond.methodLink RL 32 yX9_setCrack ∈ lw_tbl := List.mem_of_getElem? (i := 427) (by decide +kernel)
theorem mf_X9_setCrack : MF yX9_setCrack cX9_setCrack 4 (some .int) 2 := ⟨List.mem_of_getElem? (i := 430) (by decide +kernel), List.mem_of_getElem? (i := 32) (by decide +kernel), ⟨by decide +kernel, by decide +kernel⟩, by decide +kernel, by decide +kernel⟩
theorem mv_X9_setCrack : MV yX9_setCrack := ⟨List.mem_of_getElem? (i := 428) (by decide +kernel), List.mem_of_getElem? (i := 429) (by decide +kernel)⟩
theorem lk_L_36 : Cond.methodLink RL 36 yX9_setFan ∈ lw_tbl := List.mem_of_getElem? (i := 431) (by decide +kernel)
theorem mf_X9_setFan : MF yX9_setFan cX9_setFan 3 (some .int) 1 := ⟨List.mem_of_getElem? (i := 434) (by decide +kernel), List.mem_of_getElem? (i := 32) (by decide +kernel), ⟨by decide +kernel, by decide +kernel⟩, by decide +kernel, by decide +kernel⟩
theorem mv_X9_setFan : MV yX9_setFan := ⟨List.mem_of_getElem? (i := 432) (by decide +kernel), List.mem_of_getElem? (i := 433) (by decide +kernel)⟩
theorem lk_L_40 : Cond.methodLink RL 40 yX9_setPoint ∈ lw_tbl := List.mem_of_getElem? (i := 435) (by decide +kernel)
theorem mf_X9_setPoint : MF yX9_setPoint cX9_setPoint 3 (some .int) 2 := ⟨List.mem_of_getElem? (i := 438) (by decide +kernel), List.mem_of_getElem? (i := 32) (by decide +kernel), ⟨by decide +kernel, by decide +kernel⟩, by decide +kernel, by decide +kernel⟩
theorem mv_X9_setPoint : MV yX9_setPoint := ⟨List.mem_of_getElem? (i := 436) (by decide +kernel), List.mem_of_getElem? (i := 437) (by decide +kernel)⟩
theorem lk_X9_118 : Cond.methodLink RX9 118 yX6_hasRoomFor ∈ lw_tbl := List.mem_of_getElem? (i := 439) (by decide +kernel)
theorem mf_X6_hasRoomFor : MF yX6_hasRoomFor cX6_hasRoomFor 2 (some .boolean) 1 := ⟨List.mem_of_getElem? (i := 442) (by decide +kernel), List.mem_of_getElem? (i := 37) (by decide +kernel), ⟨by decide +kernel, by decide +kernel⟩, by decide +kernel, by decide +kernel⟩
theorem mv_X6_hasRoomFor : MV yX6_hasRoomFor := ⟨List.mem_of_getElem? (i := 440) (by decide +kernel), List.mem_of_getElem? (i := 441) (by decide +kernel)⟩
theorem lk_X6_43 : Cond.methodLink RX6 43 yX6_has ∈ lw_tbl := List.mem_of_getElem? (i := 443) (by decide +kernel)
theorem mf_X6_has : MF yX6_has cX6_has 3 (some .boolean) 1 := ⟨List.mem_of_getElem? (i := 446) (by decide +kernel), List.mem_of_getElem? (i := 37) (by decide +kernel), ⟨by decide +kernel, by decide +kernel⟩, by decide +kernel, by decide +kernel⟩
theorem mv_X6_has : MV yX6_has := ⟨List.mem_of_getElem? (i := 444) (by decide +kernel), List.mem_of_getElem? (i := 445) (by decide +kernel)⟩
theorem kc_X9_122 : Cond.constant RX9 122 (-100003) ∈ lw_tbl := List.mem_of_getElem? (i := 447) (by decide +kernel)
theorem lk_L_44 : Cond.methodLink RL 44 yX9_removePoint ∈ lw_tbl := List.mem_of_getElem? (i := 448) (by decide +kernel)
theorem mf_X9_removePoint : MF yX9_removePoint cX9_removePoint 3 (some .int) 1 := ⟨List.mem_of_getElem? (i := 451) (by decide +kernel), List.mem_of_getElem? (i := 32) (by decide +kernel), ⟨by decide +kernel, by decide +kernel⟩, by decide +kernel, by decide +kernel⟩
theorem mv_X9_removePoint : MV yX9_removePoint := ⟨List.mem_of_getElem? (i := 449) (by decide +kernel), List.mem_of_getElem? (i := 450) (by decide +kernel)⟩
theorem lk_X9_126 : Cond.methodLink RX9 126 yX6_has ∈ lw_tbl := List.mem_of_getElem? (i := 452) (by decide +kernel)
theorem kc_X9_129 : Cond.constant RX9 129 (-100002) ∈ lw_tbl := List.mem_of_getElem? (i := 453) (by decide +kernel)
theorem lk_X9_130 : Cond.methodLink RX9 130 yX6_valueBelow ∈ lw_tbl := List.mem_of_getElem? (i := 454) (by decide +kernel)
theorem mf_X6_valueBelow : MF yX6_valueBelow cX6_valueBelow 3 (some .int) 1 := ⟨List.mem_of_getElem? (i := 457) (by decide +kernel), List.mem_of_getElem? (i := 37) (by decide +kernel), ⟨by decide +kernel, by decide +kernel⟩, by decide +kernel, by decide +kernel⟩
theorem mv_X6_valueBelow : MV yX6_valueBelow := ⟨List.mem_of_getElem? (i := 455) (by decide +kernel), List.mem_of_getElem? (i := 456) (by decide +kernel)⟩
theorem lk_X9_134 : Cond.methodLink RX9 134 yX6_remove ∈ lw_tbl := List.mem_of_getElem? (i := 458) (by decide +kernel)
theorem mf_X6_remove : MF yX6_remove cX6_remove 3 none 1 := ⟨List.mem_of_getElem? (i := 461) (by decide +kernel), List.mem_of_getElem? (i := 37) (by decide +kernel), ⟨by decide +kernel, by decide +kernel⟩, by decide +kernel, by decide +kernel⟩
theorem mv_X6_remove : MV yX6_remove := ⟨List.mem_of_getElem? (i := 459) (by decide +kernel), List.mem_of_getElem? (i := 460) (by decide +kernel)⟩
theorem lk_L_48 : Cond.methodLink RL 48 yX9_setRow ∈ lw_tbl := List.mem_of_getElem? (i := 462) (by decide +kernel)
theorem mf_X9_setRow : MF yX9_setRow cX9_setRow 4 (some .int) 2 := ⟨List.mem_of_getElem? (i := 465) (by decide +kernel), List.mem_of_getElem? (i := 32) (by decide +kernel), ⟨by decide +kernel, by decide +kernel⟩, by decide +kernel, by decide +kernel⟩
theorem mv_X9_setRow : MV yX9_setRow := ⟨List.mem_of_getElem? (i := 463) (by decide +kernel), List.mem_of_getElem? (i := 464) (by decide +kernel)⟩
theorem lk_L_52 : Cond.methodLink RL 52 yX9_append ∈ lw_tbl := List.mem_of_getElem? (i := 466) (by decide +kernel)
theorem mf_X9_append : MF yX9_append cX9_append 2 (some .int) 1 := ⟨List.mem_of_getElem? (i := 469) (by decide +kernel), List.mem_of_getElem? (i := 32) (by decide +kernel), ⟨by decide +kernel, by decide +kernel⟩, by decide +kernel, by decide +kernel⟩
theorem mv_X9_append : MV yX9_append := ⟨List.mem_of_getElem? (i := 467) (by decide +kernel), List.mem_of_getElem? (i := 468) (by decide +kernel)⟩
theorem lk_X9_141 : Cond.methodLink RX9 141 yX8_add ∈ lw_tbl := List.mem_of_getElem? (i := 470) (by decide +kernel)
theorem mf_X8_add : MF yX8_add cX8_add 2 none 1 := ⟨List.mem_of_getElem? (i := 473) (by decide +kernel), List.mem_of_getElem? (i := 41) (by decide +kernel), ⟨by decide +kernel, by decide +kernel⟩, by decide +kernel, by decide +kernel⟩
theorem mv_X8_add : MV yX8_add := ⟨List.mem_of_getElem? (i := 471) (by decide +kernel), List.mem_of_getElem? (i := 472) (by decide +kernel)⟩
theorem ln_X8_19 : Cond.methodLinkNest RX8 19 yX9_put RX9 ∈ lw_tbl := List.mem_of_getElem? (i := 474) (by decide +kernel)
theorem lk_L_56 : Cond.methodLink RL 56 yX9_clearText ∈ lw_tbl := List.mem_of_getElem? (i := 475) (by decide +kernel)
theorem mf_X9_clearText : MF yX9_clearText cX9_clearText 2 (some .int) 0 := ⟨List.mem_of_getElem? (i := 478) (by decide +kernel), List.mem_of_getElem? (i := 32) (by decide +kernel), ⟨by decide +kernel, by decide +kernel⟩, by decide +kernel, by decide +kernel⟩
theorem mv_X9_clearText : MV yX9_clearText := ⟨List.mem_of_getElem? (i := 476) (by decide +kernel), List.mem_of_getElem? (i := 477) (by decide +kernel)⟩
theorem lk_L_61 : Cond.methodLink RL 61 yX9_load ∈ lw_tbl := List.mem_of_getElem? (i := 479) (by decide +kernel)
theorem mf_X9_load : MF yX9_load cX9_load 2 (some .int) 0 := ⟨List.mem_of_getElem? (i := 482) (by decide +kernel), List.mem_of_getElem? (i := 32) (by decide +kernel), ⟨by decide +kernel, by decide +kernel⟩, by decide +kernel, by decide +kernel⟩
theorem mv_X9_load : MV yX9_load := ⟨List.mem_of_getElem? (i := 480) (by decide +kernel), List.mem_of_getElem? (i := 481) (by decide +kernel)⟩
theorem lk_X9_144 : Cond.methodLink RX9 144 yX3_errorPosition ∈ lw_tbl := List.mem_of_getElem? (i := 483) (by decide +kernel)
theorem mf_X3_errorPosition : MF yX3_errorPosition cX3_errorPosition 6 (some .int) 1 := ⟨List.mem_of_getElem? (i := 486) (by decide +kernel), List.mem_of_getElem? (i := 42) (by decide +kernel), ⟨by decide +kernel, by decide +kernel⟩, by decide +kernel, by decide +kernel⟩
theorem mv_X3_errorPosition : MV yX3_errorPosition := ⟨List.mem_of_getElem? (i := 484) (by decide +kernel), List.mem_of_getElem? (i := 485) (by decide +kernel)⟩
theorem lk_X3_27 : Cond.methodLink RX3 27 yX8_afterSpaces ∈ lw_tbl := List.mem_of_getElem? (i := 487) (by decide +kernel)
theorem mf_X8_afterSpaces : MF yX8_afterSpaces cX8_afterSpaces 4 (some .int) 1 := ⟨List.mem_of_getElem? (i := 490) (by decide +kernel), List.mem_of_getElem? (i := 41) (by decide +kernel), ⟨by decide +kernel, by decide +kernel⟩, by decide +kernel, by decide +kernel⟩
theorem mv_X8_afterSpaces : MV yX8_afterSpaces := ⟨List.mem_of_getElem? (i := 488) (by decide +kernel), List.mem_of_getElem? (i := 489) (by decide +kernel)⟩
theorem lk_X8_27 : Cond.methodLink RX8 27 yX8_character ∈ lw_tbl := List.mem_of_getElem? (i := 491) (by decide +kernel)
theorem mf_X8_character : MF yX8_character cX8_character 2 (some .int) 1 := ⟨List.mem_of_getElem? (i := 494) (by decide +kernel), List.mem_of_getElem? (i := 41) (by decide +kernel), ⟨by decide +kernel, by decide +kernel⟩, by decide +kernel, by decide +kernel⟩
theorem mv_X8_character : MV yX8_character := ⟨List.mem_of_getElem? (i := 492) (by decide +kernel), List.mem_of_getElem? (i := 493) (by decide +kernel)⟩
theorem ln_X8_23 : Cond.methodLinkNest RX8 23 yX9_at RX9 ∈ lw_tbl := List.mem_of_getElem? (i := 495) (by decide +kernel)
theorem lk_X3_36 : Cond.methodLink RX3 36 yX8_afterToken ∈ lw_tbl := List.mem_of_getElem? (i := 496) (by decide +kernel)
theorem mf_X8_afterToken : MF yX8_afterToken cX8_afterToken 4 (some .int) 1 := ⟨List.mem_of_getElem? (i := 499) (by decide +kernel), List.mem_of_getElem? (i := 41) (by decide +kernel), ⟨by decide +kernel, by decide +kernel⟩, by decide +kernel, by decide +kernel⟩
theorem mv_X8_afterToken : MV yX8_afterToken := ⟨List.mem_of_getElem? (i := 497) (by decide +kernel), List.mem_of_getElem? (i := 498) (by decide +kernel)⟩
theorem lk_X8_35 : Cond.methodLink RX8 35 yX8_isDigit ∈ lw_tbl := List.mem_of_getElem? (i := 500) (by decide +kernel)
theorem mf_X8_isDigit : MF yX8_isDigit cX8_isDigit 2 (some .boolean) 1 := ⟨List.mem_of_getElem? (i := 503) (by decide +kernel), List.mem_of_getElem? (i := 41) (by decide +kernel), ⟨by decide +kernel, by decide +kernel⟩, by decide +kernel, by decide +kernel⟩
theorem mv_X8_isDigit : MV yX8_isDigit := ⟨List.mem_of_getElem? (i := 501) (by decide +kernel), List.mem_of_getElem? (i := 502) (by decide +kernel)⟩
theorem ln_X8_31 : Cond.methodLinkNest RX8 31 yX9_inRange RX9 ∈ lw_tbl := List.mem_of_getElem? (i := 504) (by decide +kernel)
theorem lk_X3_39 : Cond.methodLink RX3 39 yX3_takes ∈ lw_tbl := List.mem_of_getElem? (i := 505) (by decide +kernel)
theorem mf_X3_takes : MF yX3_takes cX3_takes 5 (some .boolean) 4 := ⟨List.mem_of_getElem? (i := 508) (by decide +kernel), List.mem_of_getElem? (i := 42) (by decide +kernel), ⟨by decide +kernel, by decide +kernel⟩, by decide +kernel, by decide +kernel⟩
theorem mv_X3_takes : MV yX3_takes := ⟨List.mem_of_getElem? (i := 507) (by decide +kernel), List.mem_of_getElem? (i := 2) (by decide +kernel)⟩
theorem lk_X3_43 : Cond.methodLink RX3 43 yX8_numberIn ∈ lw_tbl := List.mem_of_getElem? (i := 509) (by decide +kernel)
theorem mf_X8_numberIn : MF yX8_numberIn cX8_numberIn 5 (some .int) 2 := ⟨List.mem_of_getElem? (i := 512) (by decide +kernel), List.mem_of_getElem? (i := 41) (by decide +kernel), ⟨by decide +kernel, by decide +kernel⟩, by decide +kernel, by decide +kernel⟩
theorem mv_X8_numberIn : MV yX8_numberIn := ⟨List.mem_of_getElem? (i := 510) (by decide +kernel), List.mem_of_getElem? (i := 511) (by decide +kernel)⟩
theorem kc_X8_39 : Cond.constant RX8 39 (100000) ∈ lw_tbl := List.mem_of_getElem? (i := 513) (by decide +kernel)
theorem lk_X8_40 : Cond.methodLink RX8 40 yJ9_min_7cf53 ∈ lw_tbl := List.mem_of_getElem? (i := 514) (by decide +kernel)
theorem lk_X3_47 : Cond.methodLink RX3 47 yX3_takesTick ∈ lw_tbl := List.mem_of_getElem? (i := 515) (by decide +kernel)
theorem mf_X3_takesTick : MF yX3_takesTick cX3_takesTick 2 (some .boolean) 1 := ⟨List.mem_of_getElem? (i := 518) (by decide +kernel), List.mem_of_getElem? (i := 42) (by decide +kernel), ⟨by decide +kernel, by decide +kernel⟩, by decide +kernel, by decide +kernel⟩
theorem mv_X3_takesTick : MV yX3_takesTick := ⟨List.mem_of_getElem? (i := 517) (by decide +kernel), List.mem_of_getElem? (i := 3) (by decide +kernel)⟩
theorem ln_X3_57 : Cond.methodLinkNest RX3 57 yX9_inRange RX9 ∈ lw_tbl := List.mem_of_getElem? (i := 519) (by decide +kernel)
theorem lk_X3_51 : Cond.methodLink RX3 51 yX3_takesTemperature ∈ lw_tbl := List.mem_of_getElem? (i := 520) (by decide +kernel)
theorem mf_X3_takesTemperature : MF yX3_takesTemperature cX3_takesTemperature 2 (some .boolean) 1 := ⟨List.mem_of_getElem? (i := 523) (by decide +kernel), List.mem_of_getElem? (i := 42) (by decide +kernel), ⟨by decide +kernel, by decide +kernel⟩, by decide +kernel, by decide +kernel⟩
theorem mv_X3_takesTemperature : MV yX3_takesTemperature := ⟨List.mem_of_getElem? (i := 522) (by decide +kernel), List.mem_of_getElem? (i := 4) (by decide +kernel)⟩
theorem lk_X3_61 : Cond.methodLink RX3 61 yX6_set ∈ lw_tbl := List.mem_of_getElem? (i := 524) (by decide +kernel)
theorem lk_X3_54 : Cond.methodLink RX3 54 yX8_character ∈ lw_tbl := List.mem_of_getElem? (i := 525) (by decide +kernel)
theorem kc_X9_148 : Cond.constant RX9 148 (-200000) ∈ lw_tbl := List.mem_of_getElem? (i := 526) (by decide +kernel)
theorem lk_X9_152 : Cond.methodLink RX9 152 yX6_copyFrom ∈ lw_tbl := List.mem_of_getElem? (i := 527) (by decide +kernel)
theorem lk_L_65 : Cond.methodLink RL 65 yX9_charge ∈ lw_tbl := List.mem_of_getElem? (i := 528) (by decide +kernel)
theorem mf_X9_charge : MF yX9_charge cX9_charge 2 (some .int) 1 := ⟨List.mem_of_getElem? (i := 531) (by decide +kernel), List.mem_of_getElem? (i := 32) (by decide +kernel), ⟨by decide +kernel, by decide +kernel⟩, by decide +kernel, by decide +kernel⟩
theorem mv_X9_charge : MV yX9_charge := ⟨List.mem_of_getElem? (i := 529) (by decide +kernel), List.mem_of_getElem? (i := 530) (by decide +kernel)⟩
theorem lk_X9_159 : Cond.methodLink RX9 159 yX4_startBatch ∈ lw_tbl := List.mem_of_getElem? (i := 532) (by decide +kernel)
theorem mf_X4_startBatch : MF yX4_startBatch cX4_startBatch 2 none 1 := ⟨List.mem_of_getElem? (i := 535) (by decide +kernel), List.mem_of_getElem? (i := 34) (by decide +kernel), ⟨by decide +kernel, by decide +kernel⟩, by decide +kernel, by decide +kernel⟩
theorem mv_X4_startBatch : MV yX4_startBatch := ⟨List.mem_of_getElem? (i := 533) (by decide +kernel), List.mem_of_getElem? (i := 534) (by decide +kernel)⟩
theorem lk_X4_54 : Cond.methodLink RX4 54 yX0_start ∈ lw_tbl := List.mem_of_getElem? (i := 536) (by decide +kernel)
theorem mf_X0_start : MF yX0_start cX0_start 4 none 2 := ⟨List.mem_of_getElem? (i := 539) (by decide +kernel), List.mem_of_getElem? (i := 36) (by decide +kernel), ⟨by decide +kernel, by decide +kernel⟩, by decide +kernel, by decide +kernel⟩
theorem mv_X0_start : MV yX0_start := ⟨List.mem_of_getElem? (i := 537) (by decide +kernel), List.mem_of_getElem? (i := 538) (by decide +kernel)⟩
theorem ln_X0_45 : Cond.methodLinkNest RX0 45 yX9_put RX9 ∈ lw_tbl := List.mem_of_getElem? (i := 540) (by decide +kernel)
theorem lk_L_69 : Cond.methodLink RL 69 yX9_drop ∈ lw_tbl := List.mem_of_getElem? (i := 541) (by decide +kernel)
theorem mf_X9_drop : MF yX9_drop cX9_drop 1 (some .int) 0 := ⟨List.mem_of_getElem? (i := 544) (by decide +kernel), List.mem_of_getElem? (i := 32) (by decide +kernel), ⟨by decide +kernel, by decide +kernel⟩, by decide +kernel, by decide +kernel⟩
theorem mv_X9_drop : MV yX9_drop := ⟨List.mem_of_getElem? (i := 542) (by decide +kernel), List.mem_of_getElem? (i := 543) (by decide +kernel)⟩
theorem lk_X9_169 : Cond.methodLink RX9 169 yX2_enter ∈ lw_tbl := List.mem_of_getElem? (i := 545) (by decide +kernel)
theorem mf_X2_enter : MF yX2_enter cX2_enter 3 none 1 := ⟨List.mem_of_getElem? (i := 548) (by decide +kernel), List.mem_of_getElem? (i := 39) (by decide +kernel), ⟨by decide +kernel, by decide +kernel⟩, by decide +kernel, by decide +kernel⟩
theorem mv_X2_enter : MV yX2_enter := ⟨List.mem_of_getElem? (i := 546) (by decide +kernel), List.mem_of_getElem? (i := 547) (by decide +kernel)⟩
theorem ln_X2_26 : Cond.methodLinkNest RX2 26 yX9_at RX9 ∈ lw_tbl := List.mem_of_getElem? (i := 549) (by decide +kernel)
theorem ln_X2_30 : Cond.methodLinkNest RX2 30 yX9_put RX9 ∈ lw_tbl := List.mem_of_getElem? (i := 550) (by decide +kernel)
theorem lk_X2_34 : Cond.methodLink RX2 34 yJ9_min_7cf53 ∈ lw_tbl := List.mem_of_getElem? (i := 551) (by decide +kernel)
theorem lk_L_73 : Cond.methodLink RL 73 yX9_takeAway ∈ lw_tbl := List.mem_of_getElem? (i := 552) (by decide +kernel)
theorem mf_X9_takeAway : MF yX9_takeAway cX9_takeAway 1 (some .int) 0 := ⟨List.mem_of_getElem? (i := 555) (by decide +kernel), List.mem_of_getElem? (i := 32) (by decide +kernel), ⟨by decide +kernel, by decide +kernel⟩, by decide +kernel, by decide +kernel⟩
theorem mv_X9_takeAway : MV yX9_takeAway := ⟨List.mem_of_getElem? (i := 553) (by decide +kernel), List.mem_of_getElem? (i := 554) (by decide +kernel)⟩
theorem lk_L_77 : Cond.methodLink RL 77 yX9_run ∈ lw_tbl := List.mem_of_getElem? (i := 556) (by decide +kernel)
theorem mf_X9_run : MF yX9_run cX9_run 3 (some .int) 1 := ⟨List.mem_of_getElem? (i := 559) (by decide +kernel), List.mem_of_getElem? (i := 32) (by decide +kernel), ⟨by decide +kernel, by decide +kernel⟩, by decide +kernel, by decide +kernel⟩
theorem mv_X9_run : MV yX9_run := ⟨List.mem_of_getElem? (i := 557) (by decide +kernel), List.mem_of_getElem? (i := 558) (by decide +kernel)⟩
theorem lk_X9_192 : Cond.methodLink RX9 192 yX4_tick ∈ lw_tbl := List.mem_of_getElem? (i := 560) (by decide +kernel)
theorem mf_X4_tick : MF yX4_tick cX4_tick 3 none 2 := ⟨List.mem_of_getElem? (i := 563) (by decide +kernel), List.mem_of_getElem? (i := 34) (by decide +kernel), ⟨by decide +kernel, by decide +kernel⟩, by decide +kernel, by decide +kernel⟩
theorem mv_X4_tick : MV yX4_tick := ⟨List.mem_of_getElem? (i := 561) (by decide +kernel), List.mem_of_getElem? (i := 562) (by decide +kernel)⟩
theorem lk_X4_61 : Cond.methodLink RX4 61 yX4_steer ∈ lw_tbl := List.mem_of_getElem? (i := 564) (by decide +kernel)
theorem mf_X4_steer : MF yX4_steer cX4_steer 4 none 1 := ⟨List.mem_of_getElem? (i := 567) (by decide +kernel), List.mem_of_getElem? (i := 34) (by decide +kernel), ⟨by decide +kernel, by decide +kernel⟩, by decide +kernel, by decide +kernel⟩
theorem mv_X4_steer : MV yX4_steer := ⟨List.mem_of_getElem? (i := 566) (by decide +kernel), List.mem_of_getElem? (i := 5) (by decide +kernel)⟩
theorem lk_X4_111 : Cond.methodLink RX4 111 yX6_valueOnLine ∈ lw_tbl := List.mem_of_getElem? (i := 568) (by decide +kernel)
theorem mf_X6_valueOnLine : MF yX6_valueOnLine cX6_valueOnLine 6 (some .int) 1 := ⟨List.mem_of_getElem? (i := 571) (by decide +kernel), List.mem_of_getElem? (i := 37) (by decide +kernel), ⟨by decide +kernel, by decide +kernel⟩, by decide +kernel, by decide +kernel⟩
theorem mv_X6_valueOnLine : MV yX6_valueOnLine := ⟨List.mem_of_getElem? (i := 569) (by decide +kernel), List.mem_of_getElem? (i := 570) (by decide +kernel)⟩
theorem ln_X6_55 : Cond.methodLinkNest RX6 55 yX9_quotient RX9 ∈ lw_tbl := List.mem_of_getElem? (i := 572) (by decide +kernel)
theorem ms_X9_quotient : Cond.static yX9_quotient ∈ lw_tbl := List.mem_of_getElem? (i := 573) (by decide +kernel)
theorem mf_X9_quotient : MF yX9_quotient cX9_quotient 4 (some .long) 2 := ⟨List.mem_of_getElem? (i := 574) (by decide +kernel), List.mem_of_getElem? (i := 32) (by decide +kernel), ⟨by decide +kernel, by decide +kernel⟩, by decide +kernel, by decide +kernel⟩
theorem lk_X9_236 : Cond.methodLink RX9 236 yJ9_floorDiv_f86c9 ∈ lw_tbl := List.mem_of_getElem? (i := 575) (by decide +kernel)
theorem ms_J9_floorDiv_f86c9 : Cond.static yJ9_floorDiv_f86c9 ∈ lw_tbl := List.mem_of_getElem? (i := 576) (by decide +kernel)
theorem mf_J9_floorDiv_f86c9 : MF yJ9_floorDiv_f86c9 cJ9_floorDiv_f86c9 6 (some .long) 2 := ⟨List.mem_of_getElem? (i := 577) (by decide +kernel), List.mem_of_getElem? (i := 38) (by decide +kernel), ⟨by decide +kernel, by decide +kernel⟩, by decide +kernel, by decide +kernel⟩
theorem ln_X4_114 : Cond.methodLinkNest RX4 114 yX9_clamp RX9 ∈ lw_tbl := List.mem_of_getElem? (i := 578) (by decide +kernel)
theorem ms_X9_clamp : Cond.static yX9_clamp ∈ lw_tbl := List.mem_of_getElem? (i := 579) (by decide +kernel)
theorem mf_X9_clamp : MF yX9_clamp cX9_clamp 3 (some .int) 3 := ⟨List.mem_of_getElem? (i := 580) (by decide +kernel), List.mem_of_getElem? (i := 32) (by decide +kernel), ⟨by decide +kernel, by decide +kernel⟩, by decide +kernel, by decide +kernel⟩
theorem lk_X9_233 : Cond.methodLink RX9 233 yJ9_max_7cf53 ∈ lw_tbl := List.mem_of_getElem? (i := 581) (by decide +kernel)
theorem lk_X4_124 : Cond.methodLink RX4 124 yJ9_floorDiv_7cf53 ∈ lw_tbl := List.mem_of_getElem? (i := 582) (by decide +kernel)
theorem ms_J9_floorDiv_7cf53 : Cond.static yJ9_floorDiv_7cf53 ∈ lw_tbl := List.mem_of_getElem? (i := 583) (by decide +kernel)
theorem mf_J9_floorDiv_7cf53 : MF yJ9_floorDiv_7cf53 cJ9_floorDiv_7cf53 3 (some .int) 2 := ⟨List.mem_of_getElem? (i := 584) (by decide +kernel), List.mem_of_getElem? (i := 38) (by decide +kernel), ⟨by decide +kernel, by decide +kernel⟩, by decide +kernel, by decide +kernel⟩
theorem lk_X4_65 : Cond.methodLink RX4 65 yX4_moveDrum ∈ lw_tbl := List.mem_of_getElem? (i := 585) (by decide +kernel)
theorem mf_X4_moveDrum : MF yX4_moveDrum cX4_moveDrum 3 none 0 := ⟨List.mem_of_getElem? (i := 588) (by decide +kernel), List.mem_of_getElem? (i := 34) (by decide +kernel), ⟨by decide +kernel, by decide +kernel⟩, by decide +kernel, by decide +kernel⟩
theorem mv_X4_moveDrum : MV yX4_moveDrum := ⟨List.mem_of_getElem? (i := 587) (by decide +kernel), List.mem_of_getElem? (i := 6) (by decide +kernel)⟩
theorem lk_X4_68 : Cond.methodLink RX4 68 yX0_roast ∈ lw_tbl := List.mem_of_getElem? (i := 589) (by decide +kernel)
theorem mf_X0_roast : MF yX0_roast cX0_roast 2 none 1 := ⟨List.mem_of_getElem? (i := 592) (by decide +kernel), List.mem_of_getElem? (i := 36) (by decide +kernel), ⟨by decide +kernel, by decide +kernel⟩, by decide +kernel, by decide +kernel⟩
theorem mv_X0_roast : MV yX0_roast := ⟨List.mem_of_getElem? (i := 590) (by decide +kernel), List.mem_of_getElem? (i := 591) (by decide +kernel)⟩
theorem lk_X0_49 : Cond.methodLink RX0 49 yJ9_floorDiv_7cf53 ∈ lw_tbl := List.mem_of_getElem? (i := 593) (by decide +kernel)
theorem lk_X0_55 : Cond.methodLink RX0 55 yJ9_max_7cf53 ∈ lw_tbl := List.mem_of_getElem? (i := 594) (by decide +kernel)
theorem lk_X4_75 : Cond.methodLink RX4 75 yX0_pop ∈ lw_tbl := List.mem_of_getElem? (i := 595) (by decide +kernel)
theorem mf_X0_pop : MF yX0_pop cX0_pop 4 none 1 := ⟨List.mem_of_getElem? (i := 598) (by decide +kernel), List.mem_of_getElem? (i := 36) (by decide +kernel), ⟨by decide +kernel, by decide +kernel⟩, by decide +kernel, by decide +kernel⟩
theorem mv_X0_pop : MV yX0_pop := ⟨List.mem_of_getElem? (i := 596) (by decide +kernel), List.mem_of_getElem? (i := 597) (by decide +kernel)⟩
theorem lk_X0_58 : Cond.methodLink RX0 58 yJ9_min_7cf53 ∈ lw_tbl := List.mem_of_getElem? (i := 599) (by decide +kernel)
theorem lk_X0_61 : Cond.methodLink RX0 61 yJ9_floorMod_7cf53 ∈ lw_tbl := List.mem_of_getElem? (i := 600) (by decide +kernel)
theorem lk_X4_84 : Cond.methodLink RX4 84 yX6_valueBelow ∈ lw_tbl := List.mem_of_getElem? (i := 601) (by decide +kernel)
theorem lk_X4_93 : Cond.methodLink RX4 93 yX0_cool ∈ lw_tbl := List.mem_of_getElem? (i := 602) (by decide +kernel)
theorem mf_X0_cool : MF yX0_cool cX0_cool 3 none 2 := ⟨List.mem_of_getElem? (i := 605) (by decide +kernel), List.mem_of_getElem? (i := 36) (by decide +kernel), ⟨by decide +kernel, by decide +kernel⟩, by decide +kernel, by decide +kernel⟩
theorem mv_X0_cool : MV yX0_cool := ⟨List.mem_of_getElem? (i := 603) (by decide +kernel), List.mem_of_getElem? (i := 604) (by decide +kernel)⟩
theorem lk_X4_96 : Cond.methodLink RX4 96 yX4_moveProbe ∈ lw_tbl := List.mem_of_getElem? (i := 606) (by decide +kernel)
theorem mf_X4_moveProbe : MF yX4_moveProbe cX4_moveProbe 2 none 0 := ⟨List.mem_of_getElem? (i := 609) (by decide +kernel), List.mem_of_getElem? (i := 34) (by decide +kernel), ⟨by decide +kernel, by decide +kernel⟩, by decide +kernel, by decide +kernel⟩
theorem mv_X4_moveProbe : MV yX4_moveProbe := ⟨List.mem_of_getElem? (i := 608) (by decide +kernel), List.mem_of_getElem? (i := 7) (by decide +kernel)⟩
theorem ln_X4_139 : Cond.methodLinkNest RX4 139 yX9_quotient RX9 ∈ lw_tbl := List.mem_of_getElem? (i := 610) (by decide +kernel)
theorem lk_X4_102 : Cond.methodLink RX4 102 yX0_lookForCrack ∈ lw_tbl := List.mem_of_getElem? (i := 611) (by decide +kernel)
theorem mf_X0_lookForCrack : MF yX0_lookForCrack cX0_lookForCrack 3 none 1 := ⟨List.mem_of_getElem? (i := 614) (by decide +kernel), List.mem_of_getElem? (i := 36) (by decide +kernel), ⟨by decide +kernel, by decide +kernel⟩, by decide +kernel, by decide +kernel⟩
theorem mv_X0_lookForCrack : MV yX0_lookForCrack := ⟨List.mem_of_getElem? (i := 612) (by decide +kernel), List.mem_of_getElem? (i := 613) (by decide +kernel)⟩
theorem lk_X0_64 : Cond.methodLink RX0 64 yX0_window ∈ lw_tbl := List.mem_of_getElem? (i := 615) (by decide +kernel)
theorem mf_X0_window : MF yX0_window cX0_window 3 (some .int) 0 := ⟨List.mem_of_getElem? (i := 618) (by decide +kernel), List.mem_of_getElem? (i := 36) (by decide +kernel), ⟨by decide +kernel, by decide +kernel⟩, by decide +kernel, by decide +kernel⟩
theorem mv_X0_window : MV yX0_window := ⟨List.mem_of_getElem? (i := 616) (by decide +kernel), List.mem_of_getElem? (i := 617) (by decide +kernel)⟩
theorem ln_X0_68 : Cond.methodLinkNest RX0 68 yX9_at RX9 ∈ lw_tbl := List.mem_of_getElem? (i := 619) (by decide +kernel)
theorem lk_L_81 : Cond.methodLink RL 81 yX9_undo ∈ lw_tbl := List.mem_of_getElem? (i := 620) (by decide +kernel)
theorem mf_X9_undo : MF yX9_undo cX9_undo 1 (some .int) 0 := ⟨List.mem_of_getElem? (i := 623) (by decide +kernel), List.mem_of_getElem? (i := 32) (by decide +kernel), ⟨by decide +kernel, by decide +kernel⟩, by decide +kernel, by decide +kernel⟩
theorem mv_X9_undo : MV yX9_undo := ⟨List.mem_of_getElem? (i := 621) (by decide +kernel), List.mem_of_getElem? (i := 622) (by decide +kernel)⟩
theorem lk_X9_200 : Cond.methodLink RX9 200 yX1_restore ∈ lw_tbl := List.mem_of_getElem? (i := 624) (by decide +kernel)
theorem mf_X1_restore : MF yX1_restore cX1_restore 3 none 1 := ⟨List.mem_of_getElem? (i := 627) (by decide +kernel), List.mem_of_getElem? (i := 40) (by decide +kernel), ⟨by decide +kernel, by decide +kernel⟩, by decide +kernel, by decide +kernel⟩
theorem mv_X1_restore : MV yX1_restore := ⟨List.mem_of_getElem? (i := 625) (by decide +kernel), List.mem_of_getElem? (i := 626) (by decide +kernel)⟩
theorem lk_L_85 : Cond.methodLink RL 85 yX9_count ∈ lw_tbl := List.mem_of_getElem? (i := 628) (by decide +kernel)
theorem mf_X9_count : MF yX9_count cX9_count 2 (some .int) 1 := ⟨List.mem_of_getElem? (i := 631) (by decide +kernel), List.mem_of_getElem? (i := 32) (by decide +kernel), ⟨by decide +kernel, by decide +kernel⟩, by decide +kernel, by decide +kernel⟩
theorem mv_X9_count : MV yX9_count := ⟨List.mem_of_getElem? (i := 629) (by decide +kernel), List.mem_of_getElem? (i := 630) (by decide +kernel)⟩
theorem lk_L_89 : Cond.methodLink RL 89 yX9_batch ∈ lw_tbl := List.mem_of_getElem? (i := 632) (by decide +kernel)
theorem mf_X9_batch : MF yX9_batch cX9_batch 2 (some .int) 1 := ⟨List.mem_of_getElem? (i := 635) (by decide +kernel), List.mem_of_getElem? (i := 32) (by decide +kernel), ⟨by decide +kernel, by decide +kernel⟩, by decide +kernel, by decide +kernel⟩
theorem mv_X9_batch : MV yX9_batch := ⟨List.mem_of_getElem? (i := 633) (by decide +kernel), List.mem_of_getElem? (i := 634) (by decide +kernel)⟩
theorem lk_X9_207 : Cond.methodLink RX9 207 yX0_number ∈ lw_tbl := List.mem_of_getElem? (i := 636) (by decide +kernel)
theorem mf_X0_number : MF yX0_number cX0_number 2 (some .int) 1 := ⟨List.mem_of_getElem? (i := 639) (by decide +kernel), List.mem_of_getElem? (i := 36) (by decide +kernel), ⟨by decide +kernel, by decide +kernel⟩, by decide +kernel, by decide +kernel⟩
theorem mv_X0_number : MV yX0_number := ⟨List.mem_of_getElem? (i := 637) (by decide +kernel), List.mem_of_getElem? (i := 638) (by decide +kernel)⟩
theorem kc_X0_72 : Cond.constant RX0 72 (-100001) ∈ lw_tbl := List.mem_of_getElem? (i := 640) (by decide +kernel)
theorem lk_L_93 : Cond.methodLink RL 93 yX9_target ∈ lw_tbl := List.mem_of_getElem? (i := 641) (by decide +kernel)
theorem mf_X9_target : MF yX9_target cX9_target 2 (some .int) 1 := ⟨List.mem_of_getElem? (i := 644) (by decide +kernel), List.mem_of_getElem? (i := 32) (by decide +kernel), ⟨by decide +kernel, by decide +kernel⟩, by decide +kernel, by decide +kernel⟩
theorem mv_X9_target : MV yX9_target := ⟨List.mem_of_getElem? (i := 642) (by decide +kernel), List.mem_of_getElem? (i := 643) (by decide +kernel)⟩
theorem kc_X9_210 : Cond.constant RX9 210 (-100009) ∈ lw_tbl := List.mem_of_getElem? (i := 645) (by decide +kernel)
theorem lk_X9_211 : Cond.methodLink RX9 211 yX6_valueOnLine ∈ lw_tbl := List.mem_of_getElem? (i := 646) (by decide +kernel)
theorem lk_L_97 : Cond.methodLink RL 97 yX9_rate ∈ lw_tbl := List.mem_of_getElem? (i := 647) (by decide +kernel)
theorem mf_X9_rate : MF yX9_rate cX9_rate 2 (some .int) 1 := ⟨List.mem_of_getElem? (i := 650) (by decide +kernel), List.mem_of_getElem? (i := 32) (by decide +kernel), ⟨by decide +kernel, by decide +kernel⟩, by decide +kernel, by decide +kernel⟩
theorem mv_X9_rate : MV yX9_rate := ⟨List.mem_of_getElem? (i := 648) (by decide +kernel), List.mem_of_getElem? (i := 649) (by decide +kernel)⟩
theorem lk_L_101 : Cond.methodLink RL 101 yX9_logged ∈ lw_tbl := List.mem_of_getElem? (i := 651) (by decide +kernel)
theorem mf_X9_logged : MF yX9_logged cX9_logged 3 (some .int) 2 := ⟨List.mem_of_getElem? (i := 654) (by decide +kernel), List.mem_of_getElem? (i := 32) (by decide +kernel), ⟨by decide +kernel, by decide +kernel⟩, by decide +kernel, by decide +kernel⟩
theorem mv_X9_logged : MV yX9_logged := ⟨List.mem_of_getElem? (i := 652) (by decide +kernel), List.mem_of_getElem? (i := 653) (by decide +kernel)⟩
theorem lk_X9_214 : Cond.methodLink RX9 214 yX2_property ∈ lw_tbl := List.mem_of_getElem? (i := 655) (by decide +kernel)
theorem mf_X2_property : MF yX2_property cX2_property 3 (some .int) 2 := ⟨List.mem_of_getElem? (i := 658) (by decide +kernel), List.mem_of_getElem? (i := 39) (by decide +kernel), ⟨by decide +kernel, by decide +kernel⟩, by decide +kernel, by decide +kernel⟩
theorem mv_X2_property : MV yX2_property := ⟨List.mem_of_getElem? (i := 656) (by decide +kernel), List.mem_of_getElem? (i := 657) (by decide +kernel)⟩
theorem lk_L_105 : Cond.methodLink RL 105 yX9_drift ∈ lw_tbl := List.mem_of_getElem? (i := 659) (by decide +kernel)
theorem mf_X9_drift : MF yX9_drift cX9_drift 2 (some .int) 1 := ⟨List.mem_of_getElem? (i := 662) (by decide +kernel), List.mem_of_getElem? (i := 32) (by decide +kernel), ⟨by decide +kernel, by decide +kernel⟩, by decide +kernel, by decide +kernel⟩
theorem mv_X9_drift : MV yX9_drift := ⟨List.mem_of_getElem? (i := 660) (by decide +kernel), List.mem_of_getElem? (i := 661) (by decide +kernel)⟩
theorem lk_X9_217 : Cond.methodLink RX9 217 yX2_slope ∈ lw_tbl := List.mem_of_getElem? (i := 663) (by decide +kernel)
theorem mf_X2_slope : MF yX2_slope cX2_slope 17 (some .int) 1 := ⟨List.mem_of_getElem? (i := 666) (by decide +kernel), List.mem_of_getElem? (i := 39) (by decide +kernel), ⟨by decide +kernel, by decide +kernel⟩, by decide +kernel, by decide +kernel⟩
theorem mv_X2_slope : MV yX2_slope := ⟨List.mem_of_getElem? (i := 664) (by decide +kernel), List.mem_of_getElem? (i := 665) (by decide +kernel)⟩
theorem lk_X2_57 : Cond.methodLink RX2 57 yX2_property ∈ lw_tbl := List.mem_of_getElem? (i := 667) (by decide +kernel)
theorem kl_X2_60 : Cond.constantLong RX2 60 (-100009) ∈ lw_tbl := List.mem_of_getElem? (i := 668) (by decide +kernel)
theorem kl_X2_62 : Cond.constantLong RX2 62 (2) ∈ lw_tbl := List.mem_of_getElem? (i := 669) (by decide +kernel)
theorem kc_X2_64 : Cond.constant RX2 64 (-100009) ∈ lw_tbl := List.mem_of_getElem? (i := 670) (by decide +kernel)
theorem kl_X2_65 : Cond.constantLong RX2 65 (100) ∈ lw_tbl := List.mem_of_getElem? (i := 671) (by decide +kernel)
theorem ln_X2_67 : Cond.methodLinkNest RX2 67 yX9_quotient RX9 ∈ lw_tbl := List.mem_of_getElem? (i := 672) (by decide +kernel)
theorem lk_L_109 : Cond.methodLink RL 109 yX9_ticksTo ∈ lw_tbl := List.mem_of_getElem? (i := 673) (by decide +kernel)
theorem mf_X9_ticksTo : MF yX9_ticksTo cX9_ticksTo 3 (some .int) 1 := ⟨List.mem_of_getElem? (i := 676) (by decide +kernel), List.mem_of_getElem? (i := 32) (by decide +kernel), ⟨by decide +kernel, by decide +kernel⟩, by decide +kernel, by decide +kernel⟩
theorem mv_X9_ticksTo : MV yX9_ticksTo := ⟨List.mem_of_getElem? (i := 674) (by decide +kernel), List.mem_of_getElem? (i := 675) (by decide +kernel)⟩
theorem lk_X9_220 : Cond.methodLink RX9 220 yX4_copyFrom ∈ lw_tbl := List.mem_of_getElem? (i := 677) (by decide +kernel)
theorem lk_L_113 : Cond.methodLink RL 113 yX9_ticksToLoss ∈ lw_tbl := List.mem_of_getElem? (i := 678) (by decide +kernel)
theorem mf_X9_ticksToLoss : MF yX9_ticksToLoss cX9_ticksToLoss 3 (some .int) 1 := ⟨List.mem_of_getElem? (i := 681) (by decide +kernel), List.mem_of_getElem? (i := 32) (by decide +kernel), ⟨by decide +kernel, by decide +kernel⟩, by decide +kernel, by decide +kernel⟩
theorem mv_X9_ticksToLoss : MV yX9_ticksToLoss := ⟨List.mem_of_getElem? (i := 679) (by decide +kernel), List.mem_of_getElem? (i := 680) (by decide +kernel)⟩
theorem kc_X9_223 : Cond.constant RX9 223 (100000) ∈ lw_tbl := List.mem_of_getElem? (i := 682) (by decide +kernel)
theorem lk_L_117 : Cond.methodLink RL 117 yX9_bestBias ∈ lw_tbl := List.mem_of_getElem? (i := 683) (by decide +kernel)
theorem mf_X9_bestBias : MF yX9_bestBias cX9_bestBias 6 (some .int) 1 := ⟨List.mem_of_getElem? (i := 686) (by decide +kernel), List.mem_of_getElem? (i := 32) (by decide +kernel), ⟨by decide +kernel, by decide +kernel⟩, by decide +kernel, by decide +kernel⟩
theorem mv_X9_bestBias : MV yX9_bestBias := ⟨List.mem_of_getElem? (i := 684) (by decide +kernel), List.mem_of_getElem? (i := 685) (by decide +kernel)⟩
theorem lk_X9_224 : Cond.methodLink RX9 224 yX9_deviationWith ∈ lw_tbl := List.mem_of_getElem? (i := 687) (by decide +kernel)
theorem mf_X9_deviationWith : MF yX9_deviationWith cX9_deviationWith 5 (some .int) 2 := ⟨List.mem_of_getElem? (i := 690) (by decide +kernel), List.mem_of_getElem? (i := 32) (by decide +kernel), ⟨by decide +kernel, by decide +kernel⟩, by decide +kernel, by decide +kernel⟩
theorem mv_X9_deviationWith : MV yX9_deviationWith := ⟨List.mem_of_getElem? (i := 689) (by decide +kernel), List.mem_of_getElem? (i := 8) (by decide +kernel)⟩
theorem lk_X9_230 : Cond.methodLink RX9 230 yJ9_abs_0f7a4 ∈ lw_tbl := List.mem_of_getElem? (i := 691) (by decide +kernel)
theorem ms_J9_abs_0f7a4 : Cond.static yJ9_abs_0f7a4 ∈ lw_tbl := List.mem_of_getElem? (i := 692) (by decide +kernel)
theorem mf_J9_abs_0f7a4 : MF yJ9_abs_0f7a4 cJ9_abs_0f7a4 1 (some .int) 1 := ⟨List.mem_of_getElem? (i := 693) (by decide +kernel), List.mem_of_getElem? (i := 38) (by decide +kernel), ⟨by decide +kernel, by decide +kernel⟩, by decide +kernel, by decide +kernel⟩
theorem lk_L_12 : Cond.methodLink RL 12 yX10_init ∈ lw_tbl := List.mem_of_getElem? (i := 696) (by decide +kernel)
theorem mf_X10_init : MF yX10_init cX10_init 1 none 0 := ⟨List.mem_of_getElem? (i := 698) (by decide +kernel), List.mem_of_getElem? (i := 43) (by decide +kernel), ⟨by decide +kernel, by decide +kernel⟩, by decide +kernel, by decide +kernel⟩
theorem mi_X10_init : Cond.instanceMethod yX10_init ∈ lw_tbl := List.mem_of_getElem? (i := 697) (by decide +kernel)
theorem lk_X10_1 : Cond.methodLink RX10 1 objectInit ∈ lw_tbl := List.mem_of_getElem? (i := 699) (by decide +kernel)
theorem lk_X10_29 : Cond.methodLink RX10 29 yX10_row ∈ lw_tbl := List.mem_of_getElem? (i := 700) (by decide +kernel)
theorem mf_X10_row : MF yX10_row cX10_row 4 none 3 := ⟨List.mem_of_getElem? (i := 703) (by decide +kernel), List.mem_of_getElem? (i := 43) (by decide +kernel), ⟨by decide +kernel, by decide +kernel⟩, by decide +kernel, by decide +kernel⟩
theorem mv_X10_row : MV yX10_row := ⟨List.mem_of_getElem? (i := 702) (by decide +kernel), List.mem_of_getElem? (i := 9) (by decide +kernel)⟩
theorem fl_X10_25 : Cond.fieldLink RX10 25 "RoastKeeperModel" "thrown" "I" ∈ lw_tbl := List.mem_of_getElem? (i := 704) (by decide +kernel)
theorem fl_X10_7 : Cond.fieldLink RX10 7 "RoastKeeperModel" "s" "[I" ∈ lw_tbl := List.mem_of_getElem? (i := 705) (by decide +kernel)
theorem fl_X10_13 : Cond.fieldLink RX10 13 "RoastKeeperModel" "aside" "[I" ∈ lw_tbl := List.mem_of_getElem? (i := 706) (by decide +kernel)
theorem fl_X10_16 : Cond.fieldLink RX10 16 "RoastKeeperModel" "saved" "[I" ∈ lw_tbl := List.mem_of_getElem? (i := 707) (by decide +kernel)
theorem fl_X10_33 : Cond.fieldLink RX10 33 "RoastKeeperModel" "savedMany" "I" ∈ lw_tbl := List.mem_of_getElem? (i := 708) (by decide +kernel)
theorem fl_X10_19 : Cond.fieldLink RX10 19 "RoastKeeperModel" "text" "[I" ∈ lw_tbl := List.mem_of_getElem? (i := 709) (by decide +kernel)
theorem fl_X10_65 : Cond.fieldLink RX10 65 "RoastKeeperModel" "length" "I" ∈ lw_tbl := List.mem_of_getElem? (i := 710) (by decide +kernel)
theorem fl_X10_68 : Cond.fieldLink RX10 68 "RoastKeeperModel" "next" "I" ∈ lw_tbl := List.mem_of_getElem? (i := 711) (by decide +kernel)
theorem fl_X10_78 : Cond.fieldLink RX10 78 "RoastKeeperModel" "wrong" "I" ∈ lw_tbl := List.mem_of_getElem? (i := 712) (by decide +kernel)
theorem fl_X10_22 : Cond.fieldLink RX10 22 "RoastKeeperModel" "points" "[I" ∈ lw_tbl := List.mem_of_getElem? (i := 713) (by decide +kernel)
theorem lk_L_17 : Cond.methodLink RL 17 yX10_setAmbient ∈ lw_tbl := List.mem_of_getElem? (i := 735) (by decide +kernel)
theorem mf_X10_setAmbient : MF yX10_setAmbient cX10_setAmbient 2 (some .int) 1 := ⟨List.mem_of_getElem? (i := 738) (by decide +kernel), List.mem_of_getElem? (i := 43) (by decide +kernel), ⟨by decide +kernel, by decide +kernel⟩, by decide +kernel, by decide +kernel⟩
theorem mv_X10_setAmbient : MV yX10_setAmbient := ⟨List.mem_of_getElem? (i := 736) (by decide +kernel), List.mem_of_getElem? (i := 737) (by decide +kernel)⟩
theorem lk_X10_39 : Cond.methodLink RX10 39 yX10_in ∈ lw_tbl := List.mem_of_getElem? (i := 739) (by decide +kernel)
theorem ms_X10_in : Cond.static yX10_in ∈ lw_tbl := List.mem_of_getElem? (i := 740) (by decide +kernel)
theorem mf_X10_in : MF yX10_in cX10_in 3 (some .boolean) 3 := ⟨List.mem_of_getElem? (i := 741) (by decide +kernel), List.mem_of_getElem? (i := 43) (by decide +kernel), ⟨by decide +kernel, by decide +kernel⟩, by decide +kernel, by decide +kernel⟩
theorem lk_X10_43 : Cond.methodLink RX10 43 yX10_put ∈ lw_tbl := List.mem_of_getElem? (i := 742) (by decide +kernel)
theorem mf_X10_put : MF yX10_put cX10_put 4 (some .int) 2 := ⟨List.mem_of_getElem? (i := 745) (by decide +kernel), List.mem_of_getElem? (i := 43) (by decide +kernel), ⟨by decide +kernel, by decide +kernel⟩, by decide +kernel, by decide +kernel⟩
theorem mv_X10_put : MV yX10_put := ⟨List.mem_of_getElem? (i := 744) (by decide +kernel), List.mem_of_getElem? (i := 10) (by decide +kernel)⟩
theorem lk_X10_36 : Cond.methodLink RX10 36 yX10_act ∈ lw_tbl := List.mem_of_getElem? (i := 746) (by decide +kernel)
theorem mf_X10_act : MF yX10_act cX10_act 2 none 0 := ⟨List.mem_of_getElem? (i := 749) (by decide +kernel), List.mem_of_getElem? (i := 43) (by decide +kernel), ⟨by decide +kernel, by decide +kernel⟩, by decide +kernel, by decide +kernel⟩
theorem mv_X10_act : MV yX10_act := ⟨List.mem_of_getElem? (i := 748) (by decide +kernel), List.mem_of_getElem? (i := 11) (by decide +kernel)⟩
theorem kc_X10_47 : Cond.constant RX10 47 (-100001) ∈ lw_tbl := List.mem_of_getElem? (i := 750) (by decide +kernel)
theorem lk_L_21 : Cond.methodLink RL 21 yX10_setPower ∈ lw_tbl := List.mem_of_getElem? (i := 751) (by decide +kernel)
theorem mf_X10_setPower : MF yX10_setPower cX10_setPower 2 (some .int) 1 := ⟨List.mem_of_getElem? (i := 754) (by decide +kernel), List.mem_of_getElem? (i := 43) (by decide +kernel), ⟨by decide +kernel, by decide +kernel⟩, by decide +kernel, by decide +kernel⟩
theorem mv_X10_setPower : MV yX10_setPower := ⟨List.mem_of_getElem? (i := 752) (by decide +kernel), List.mem_of_getElem? (i := 753) (by decide +kernel)⟩
theorem lk_L_26 : Cond.methodLink RL 26 yX10_setController ∈ lw_tbl := List.mem_of_getElem? (i := 755) (by decide +kernel)
theorem mf_X10_setController : MF yX10_setController cX10_setController 6 (some .int) 4 := ⟨List.mem_of_getElem? (i := 758) (by decide +kernel), List.mem_of_getElem? (i := 43) (by decide +kernel), ⟨by decide +kernel, by decide +kernel⟩, by decide +kernel, by decide +kernel⟩
theorem mv_X10_setController : MV yX10_setController := ⟨List.mem_of_getElem? (i := 756) (by decide +kernel), List.mem_of_getElem? (i := 757) (by decide +kernel)⟩
theorem lk_L_31 : Cond.methodLink RL 31 yX10_setProbe ∈ lw_tbl := List.mem_of_getElem? (i := 759) (by decide +kernel)
theorem mf_X10_setProbe : MF yX10_setProbe cX10_setProbe 4 (some .int) 2 := ⟨List.mem_of_getElem? (i := 762) (by decide +kernel), List.mem_of_getElem? (i := 43) (by decide +kernel), ⟨by decide +kernel, by decide +kernel⟩, by decide +kernel, by decide +kernel⟩
theorem mv_X10_setProbe : MV yX10_setProbe := ⟨List.mem_of_getElem? (i := 760) (by decide +kernel), List.mem_of_getElem? (i := 761) (by decide +kernel)⟩
theorem lk_L_35 : Cond.methodLink RL 35 yX10_setCrack ∈ lw_tbl := List.mem_of_getElem? (i := 763) (by decide +kernel)
theorem mf_X10_setCrack : MF yX10_setCrack cX10_setCrack 4 (some .int) 2 := ⟨List.mem_of_getElem? (i := 766) (by decide +kernel), List.mem_of_getElem? (i := 43) (by decide +kernel), ⟨by decide +kernel, by decide +kernel⟩, by decide +kernel, by decide +kernel⟩
theorem mv_X10_setCrack : MV yX10_setCrack := ⟨List.mem_of_getElem? (i := 764) (by decide +kernel), List.mem_of_getElem? (i := 765) (by decide +kernel)⟩
theorem lk_L_39 : Cond.methodLink RL 39 yX10_setFan ∈ lw_tbl := List.mem_of_getElem? (i := 767) (by decide +kernel)
theorem mf_X10_setFan : MF yX10_setFan cX10_setFan 2 (some .int) 1 := ⟨List.mem_of_getElem? (i := 770) (by decide +kernel), List.mem_of_getElem? (i := 43) (by decide +kernel), ⟨by decide +kernel, by decide +kernel⟩, by decide +kernel, by decide +kernel⟩
theorem mv_X10_setFan : MV yX10_setFan := ⟨List.mem_of_getElem? (i := 768) (by decide +kernel), List.mem_of_getElem? (i := 769) (by decide +kernel)⟩
theorem lk_L_43 : Cond.methodLink RL 43 yX10_setPoint ∈ lw_tbl := List.mem_of_getElem? (i := 771) (by decide +kernel)
theorem mf_X10_setPoint : MF yX10_setPoint cX10_setPoint 4 (some .int) 2 := ⟨List.mem_of_getElem? (i := 774) (by decide +kernel), List.mem_of_getElem? (i := 43) (by decide +kernel), ⟨by decide +kernel, by decide +kernel⟩, by decide +kernel, by decide +kernel⟩
theorem mv_X10_setPoint : MV yX10_setPoint := ⟨List.mem_of_getElem? (i := 772) (by decide +kernel), List.mem_of_getElem? (i := 773) (by decide +kernel)⟩
theorem lk_X10_48 : Cond.methodLink RX10 48 yX10_place ∈ lw_tbl := List.mem_of_getElem? (i := 775) (by decide +kernel)
theorem mf_X10_place : MF yX10_place cX10_place 5 (some .int) 3 := ⟨List.mem_of_getElem? (i := 778) (by decide +kernel), List.mem_of_getElem? (i := 43) (by decide +kernel), ⟨by decide +kernel, by decide +kernel⟩, by decide +kernel, by decide +kernel⟩
theorem mv_X10_place : MV yX10_place := ⟨List.mem_of_getElem? (i := 777) (by decide +kernel), List.mem_of_getElem? (i := 12) (by decide +kernel)⟩
theorem lk_X10_52 : Cond.methodLink RX10 52 yX10_isAt ∈ lw_tbl := List.mem_of_getElem? (i := 779) (by decide +kernel)
theorem mf_X10_isAt : MF yX10_isAt cX10_isAt 5 (some .boolean) 4 := ⟨List.mem_of_getElem? (i := 782) (by decide +kernel), List.mem_of_getElem? (i := 43) (by decide +kernel), ⟨by decide +kernel, by decide +kernel⟩, by decide +kernel, by decide +kernel⟩
theorem mv_X10_isAt : MV yX10_isAt := ⟨List.mem_of_getElem? (i := 781) (by decide +kernel), List.mem_of_getElem? (i := 13) (by decide +kernel)⟩
theorem kc_X10_56 : Cond.constant RX10 56 (-100003) ∈ lw_tbl := List.mem_of_getElem? (i := 783) (by decide +kernel)
theorem lk_X10_57 : Cond.methodLink RX10 57 yX10_insert ∈ lw_tbl := List.mem_of_getElem? (i := 784) (by decide +kernel)
theorem mf_X10_insert : MF yX10_insert cX10_insert 7 none 4 := ⟨List.mem_of_getElem? (i := 787) (by decide +kernel), List.mem_of_getElem? (i := 43) (by decide +kernel), ⟨by decide +kernel, by decide +kernel⟩, by decide +kernel, by decide +kernel⟩
theorem mv_X10_insert : MV yX10_insert := ⟨List.mem_of_getElem? (i := 786) (by decide +kernel), List.mem_of_getElem? (i := 14) (by decide +kernel)⟩
theorem lk_L_47 : Cond.methodLink RL 47 yX10_removePoint ∈ lw_tbl := List.mem_of_getElem? (i := 788) (by decide +kernel)
theorem mf_X10_removePoint : MF yX10_removePoint cX10_removePoint 4 (some .int) 1 := ⟨List.mem_of_getElem? (i := 791) (by decide +kernel), List.mem_of_getElem? (i := 43) (by decide +kernel), ⟨by decide +kernel, by decide +kernel⟩, by decide +kernel, by decide +kernel⟩
theorem mv_X10_removePoint : MV yX10_removePoint := ⟨List.mem_of_getElem? (i := 789) (by decide +kernel), List.mem_of_getElem? (i := 790) (by decide +kernel)⟩
theorem kc_X10_61 : Cond.constant RX10 61 (-100002) ∈ lw_tbl := List.mem_of_getElem? (i := 792) (by decide +kernel)
theorem lk_X10_62 : Cond.methodLink RX10 62 yX10_takeOut ∈ lw_tbl := List.mem_of_getElem? (i := 793) (by decide +kernel)
theorem mf_X10_takeOut : MF yX10_takeOut cX10_takeOut 5 none 3 := ⟨List.mem_of_getElem? (i := 796) (by decide +kernel), List.mem_of_getElem? (i := 43) (by decide +kernel), ⟨by decide +kernel, by decide +kernel⟩, by decide +kernel, by decide +kernel⟩
theorem mv_X10_takeOut : MV yX10_takeOut := ⟨List.mem_of_getElem? (i := 795) (by decide +kernel), List.mem_of_getElem? (i := 15) (by decide +kernel)⟩
theorem lk_L_51 : Cond.methodLink RL 51 yX10_setRow ∈ lw_tbl := List.mem_of_getElem? (i := 797) (by decide +kernel)
theorem mf_X10_setRow : MF yX10_setRow cX10_setRow 5 (some .int) 2 := ⟨List.mem_of_getElem? (i := 800) (by decide +kernel), List.mem_of_getElem? (i := 43) (by decide +kernel), ⟨by decide +kernel, by decide +kernel⟩, by decide +kernel, by decide +kernel⟩
theorem mv_X10_setRow : MV yX10_setRow := ⟨List.mem_of_getElem? (i := 798) (by decide +kernel), List.mem_of_getElem? (i := 799) (by decide +kernel)⟩
theorem lk_L_55 : Cond.methodLink RL 55 yX10_append ∈ lw_tbl := List.mem_of_getElem? (i := 801) (by decide +kernel)
theorem mf_X10_append : MF yX10_append cX10_append 2 (some .int) 1 := ⟨List.mem_of_getElem? (i := 804) (by decide +kernel), List.mem_of_getElem? (i := 43) (by decide +kernel), ⟨by decide +kernel, by decide +kernel⟩, by decide +kernel, by decide +kernel⟩
theorem mv_X10_append : MV yX10_append := ⟨List.mem_of_getElem? (i := 802) (by decide +kernel), List.mem_of_getElem? (i := 803) (by decide +kernel)⟩
theorem lk_L_60 : Cond.methodLink RL 60 yX10_clearText ∈ lw_tbl := List.mem_of_getElem? (i := 805) (by decide +kernel)
theorem mf_X10_clearText : MF yX10_clearText cX10_clearText 2 (some .int) 0 := ⟨List.mem_of_getElem? (i := 808) (by decide +kernel), List.mem_of_getElem? (i := 43) (by decide +kernel), ⟨by decide +kernel, by decide +kernel⟩, by decide +kernel, by decide +kernel⟩
theorem mv_X10_clearText : MV yX10_clearText := ⟨List.mem_of_getElem? (i := 806) (by decide +kernel), List.mem_of_getElem? (i := 807) (by decide +kernel)⟩
theorem lk_L_64 : Cond.methodLink RL 64 yX10_load ∈ lw_tbl := List.mem_of_getElem? (i := 809) (by decide +kernel)
theorem mf_X10_load : MF yX10_load cX10_load 3 (some .int) 0 := ⟨List.mem_of_getElem? (i := 812) (by decide +kernel), List.mem_of_getElem? (i := 43) (by decide +kernel), ⟨by decide +kernel, by decide +kernel⟩, by decide +kernel, by decide +kernel⟩
theorem mv_X10_load : MV yX10_load := ⟨List.mem_of_getElem? (i := 810) (by decide +kernel), List.mem_of_getElem? (i := 811) (by decide +kernel)⟩
theorem lk_X10_85 : Cond.methodLink RX10 85 yX10_hold ∈ lw_tbl := List.mem_of_getElem? (i := 813) (by decide +kernel)
theorem mf_X10_hold : MF yX10_hold cX10_hold 2 none 0 := ⟨List.mem_of_getElem? (i := 816) (by decide +kernel), List.mem_of_getElem? (i := 43) (by decide +kernel), ⟨by decide +kernel, by decide +kernel⟩, by decide +kernel, by decide +kernel⟩
theorem mv_X10_hold : MV yX10_hold := ⟨List.mem_of_getElem? (i := 815) (by decide +kernel), List.mem_of_getElem? (i := 16) (by decide +kernel)⟩
theorem kc_X10_81 : Cond.constant RX10 81 (-100009) ∈ lw_tbl := List.mem_of_getElem? (i := 817) (by decide +kernel)
theorem lk_X10_75 : Cond.methodLink RX10 75 yX10_skip ∈ lw_tbl := List.mem_of_getElem? (i := 818) (by decide +kernel)
theorem mf_X10_skip : MF yX10_skip cX10_skip 1 none 0 := ⟨List.mem_of_getElem? (i := 821) (by decide +kernel), List.mem_of_getElem? (i := 43) (by decide +kernel), ⟨by decide +kernel, by decide +kernel⟩, by decide +kernel, by decide +kernel⟩
theorem mv_X10_skip : MV yX10_skip := ⟨List.mem_of_getElem? (i := 820) (by decide +kernel), List.mem_of_getElem? (i := 17) (by decide +kernel)⟩
theorem lk_X10_71 : Cond.methodLink RX10 71 yX10_here ∈ lw_tbl := List.mem_of_getElem? (i := 822) (by decide +kernel)
theorem mf_X10_here : MF yX10_here cX10_here 1 (some .int) 0 := ⟨List.mem_of_getElem? (i := 825) (by decide +kernel), List.mem_of_getElem? (i := 43) (by decide +kernel), ⟨by decide +kernel, by decide +kernel⟩, by decide +kernel, by decide +kernel⟩
theorem mv_X10_here : MV yX10_here := ⟨List.mem_of_getElem? (i := 824) (by decide +kernel), List.mem_of_getElem? (i := 18) (by decide +kernel)⟩
theorem lk_X10_88 : Cond.methodLink RX10 88 yX10_readPoint ∈ lw_tbl := List.mem_of_getElem? (i := 826) (by decide +kernel)
theorem mf_X10_readPoint : MF yX10_readPoint cX10_readPoint 4 none 1 := ⟨List.mem_of_getElem? (i := 829) (by decide +kernel), List.mem_of_getElem? (i := 43) (by decide +kernel), ⟨by decide +kernel, by decide +kernel⟩, by decide +kernel, by decide +kernel⟩
theorem mv_X10_readPoint : MV yX10_readPoint := ⟨List.mem_of_getElem? (i := 828) (by decide +kernel), List.mem_of_getElem? (i := 19) (by decide +kernel)⟩
theorem lk_X10_82 : Cond.methodLink RX10 82 yX10_takeNumber ∈ lw_tbl := List.mem_of_getElem? (i := 830) (by decide +kernel)
theorem mf_X10_takeNumber : MF yX10_takeNumber cX10_takeNumber 6 (some .int) 2 := ⟨List.mem_of_getElem? (i := 833) (by decide +kernel), List.mem_of_getElem? (i := 43) (by decide +kernel), ⟨by decide +kernel, by decide +kernel⟩, by decide +kernel, by decide +kernel⟩
theorem mv_X10_takeNumber : MV yX10_takeNumber := ⟨List.mem_of_getElem? (i := 832) (by decide +kernel), List.mem_of_getElem? (i := 20) (by decide +kernel)⟩
theorem lk_X10_92 : Cond.methodLink RX10 92 yX10_release ∈ lw_tbl := List.mem_of_getElem? (i := 834) (by decide +kernel)
theorem mf_X10_release : MF yX10_release cX10_release 2 none 0 := ⟨List.mem_of_getElem? (i := 837) (by decide +kernel), List.mem_of_getElem? (i := 43) (by decide +kernel), ⟨by decide +kernel, by decide +kernel⟩, by decide +kernel, by decide +kernel⟩
theorem mv_X10_release : MV yX10_release := ⟨List.mem_of_getElem? (i := 836) (by decide +kernel), List.mem_of_getElem? (i := 21) (by decide +kernel)⟩
theorem kc_X10_95 : Cond.constant RX10 95 (-200000) ∈ lw_tbl := List.mem_of_getElem? (i := 838) (by decide +kernel)
theorem lk_L_68 : Cond.methodLink RL 68 yX10_charge ∈ lw_tbl := List.mem_of_getElem? (i := 839) (by decide +kernel)
theorem mf_X10_charge : MF yX10_charge cX10_charge 3 (some .int) 1 := ⟨List.mem_of_getElem? (i := 842) (by decide +kernel), List.mem_of_getElem? (i := 43) (by decide +kernel), ⟨by decide +kernel, by decide +kernel⟩, by decide +kernel, by decide +kernel⟩
theorem mv_X10_charge : MV yX10_charge := ⟨List.mem_of_getElem? (i := 840) (by decide +kernel), List.mem_of_getElem? (i := 841) (by decide +kernel)⟩
theorem lk_L_72 : Cond.methodLink RL 72 yX10_drop ∈ lw_tbl := List.mem_of_getElem? (i := 843) (by decide +kernel)
theorem mf_X10_drop : MF yX10_drop cX10_drop 2 (some .int) 0 := ⟨List.mem_of_getElem? (i := 846) (by decide +kernel), List.mem_of_getElem? (i := 43) (by decide +kernel), ⟨by decide +kernel, by decide +kernel⟩, by decide +kernel, by decide +kernel⟩
theorem mv_X10_drop : MV yX10_drop := ⟨List.mem_of_getElem? (i := 844) (by decide +kernel), List.mem_of_getElem? (i := 845) (by decide +kernel)⟩
theorem lk_X10_96 : Cond.methodLink RX10 96 yX10_isRoasting ∈ lw_tbl := List.mem_of_getElem? (i := 847) (by decide +kernel)
theorem mf_X10_isRoasting : MF yX10_isRoasting cX10_isRoasting 1 (some .boolean) 0 := ⟨List.mem_of_getElem? (i := 850) (by decide +kernel), List.mem_of_getElem? (i := 43) (by decide +kernel), ⟨by decide +kernel, by decide +kernel⟩, by decide +kernel, by decide +kernel⟩
theorem mv_X10_isRoasting : MV yX10_isRoasting := ⟨List.mem_of_getElem? (i := 849) (by decide +kernel), List.mem_of_getElem? (i := 22) (by decide +kernel)⟩
theorem lk_X10_100 : Cond.methodLink RX10 100 yX10_clamp ∈ lw_tbl := List.mem_of_getElem? (i := 851) (by decide +kernel)
theorem ms_X10_clamp : Cond.static yX10_clamp ∈ lw_tbl := List.mem_of_getElem? (i := 852) (by decide +kernel)
theorem mf_X10_clamp : MF yX10_clamp cX10_clamp 3 (some .int) 3 := ⟨List.mem_of_getElem? (i := 853) (by decide +kernel), List.mem_of_getElem? (i := 43) (by decide +kernel), ⟨by decide +kernel, by decide +kernel⟩, by decide +kernel, by decide +kernel⟩
theorem lk_L_76 : Cond.methodLink RL 76 yX10_takeAway ∈ lw_tbl := List.mem_of_getElem? (i := 854) (by decide +kernel)
theorem mf_X10_takeAway : MF yX10_takeAway cX10_takeAway 1 (some .int) 0 := ⟨List.mem_of_getElem? (i := 857) (by decide +kernel), List.mem_of_getElem? (i := 43) (by decide +kernel), ⟨by decide +kernel, by decide +kernel⟩, by decide +kernel, by decide +kernel⟩
theorem mv_X10_takeAway : MV yX10_takeAway := ⟨List.mem_of_getElem? (i := 855) (by decide +kernel), List.mem_of_getElem? (i := 856) (by decide +kernel)⟩
theorem lk_L_80 : Cond.methodLink RL 80 yX10_run ∈ lw_tbl := List.mem_of_getElem? (i := 858) (by decide +kernel)
theorem mf_X10_run : MF yX10_run cX10_run 3 (some .int) 1 := ⟨List.mem_of_getElem? (i := 861) (by decide +kernel), List.mem_of_getElem? (i := 43) (by decide +kernel), ⟨by decide +kernel, by decide +kernel⟩, by decide +kernel, by decide +kernel⟩
theorem mv_X10_run : MV yX10_run := ⟨List.mem_of_getElem? (i := 859) (by decide +kernel), List.mem_of_getElem? (i := 860) (by decide +kernel)⟩
theorem lk_X10_122 : Cond.methodLink RX10 122 yX10_tick ∈ lw_tbl := List.mem_of_getElem? (i := 862) (by decide +kernel)
theorem mf_X10_tick : MF yX10_tick cX10_tick 3 none 0 := ⟨List.mem_of_getElem? (i := 865) (by decide +kernel), List.mem_of_getElem? (i := 43) (by decide +kernel), ⟨by decide +kernel, by decide +kernel⟩, by decide +kernel, by decide +kernel⟩
theorem mv_X10_tick : MV yX10_tick := ⟨List.mem_of_getElem? (i := 864) (by decide +kernel), List.mem_of_getElem? (i := 23) (by decide +kernel)⟩
theorem lk_X10_110 : Cond.methodLink RX10 110 yX10_control ∈ lw_tbl := List.mem_of_getElem? (i := 866) (by decide +kernel)
theorem mf_X10_control : MF yX10_control cX10_control 3 none 0 := ⟨List.mem_of_getElem? (i := 869) (by decide +kernel), List.mem_of_getElem? (i := 43) (by decide +kernel), ⟨by decide +kernel, by decide +kernel⟩, by decide +kernel, by decide +kernel⟩
theorem mv_X10_control : MV yX10_control := ⟨List.mem_of_getElem? (i := 868) (by decide +kernel), List.mem_of_getElem? (i := 24) (by decide +kernel)⟩
theorem lk_X10_106 : Cond.methodLink RX10 106 yX10_targetAt ∈ lw_tbl := List.mem_of_getElem? (i := 870) (by decide +kernel)
theorem mf_X10_targetAt : MF yX10_targetAt cX10_targetAt 5 (some .int) 1 := ⟨List.mem_of_getElem? (i := 873) (by decide +kernel), List.mem_of_getElem? (i := 43) (by decide +kernel), ⟨by decide +kernel, by decide +kernel⟩, by decide +kernel, by decide +kernel⟩
theorem mv_X10_targetAt : MV yX10_targetAt := ⟨List.mem_of_getElem? (i := 872) (by decide +kernel), List.mem_of_getElem? (i := 25) (by decide +kernel)⟩
theorem lk_X10_103 : Cond.methodLink RX10 103 yX10_down ∈ lw_tbl := List.mem_of_getElem? (i := 874) (by decide +kernel)
theorem ms_X10_down : Cond.static yX10_down ∈ lw_tbl := List.mem_of_getElem? (i := 875) (by decide +kernel)
theorem mf_X10_down : MF yX10_down cX10_down 3 (some .int) 2 := ⟨List.mem_of_getElem? (i := 876) (by decide +kernel), List.mem_of_getElem? (i := 43) (by decide +kernel), ⟨by decide +kernel, by decide +kernel⟩, by decide +kernel, by decide +kernel⟩
theorem lk_X10_113 : Cond.methodLink RX10 113 yX10_crack ∈ lw_tbl := List.mem_of_getElem? (i := 877) (by decide +kernel)
theorem mf_X10_crack : MF yX10_crack cX10_crack 4 none 0 := ⟨List.mem_of_getElem? (i := 880) (by decide +kernel), List.mem_of_getElem? (i := 43) (by decide +kernel), ⟨by decide +kernel, by decide +kernel⟩, by decide +kernel, by decide +kernel⟩
theorem mv_X10_crack : MV yX10_crack := ⟨List.mem_of_getElem? (i := 879) (by decide +kernel), List.mem_of_getElem? (i := 26) (by decide +kernel)⟩
theorem lk_X10_116 : Cond.methodLink RX10 116 yX10_rateAt ∈ lw_tbl := List.mem_of_getElem? (i := 881) (by decide +kernel)
theorem mf_X10_rateAt : MF yX10_rateAt cX10_rateAt 3 (some .int) 1 := ⟨List.mem_of_getElem? (i := 884) (by decide +kernel), List.mem_of_getElem? (i := 43) (by decide +kernel), ⟨by decide +kernel, by decide +kernel⟩, by decide +kernel, by decide +kernel⟩
theorem mv_X10_rateAt : MV yX10_rateAt := ⟨List.mem_of_getElem? (i := 883) (by decide +kernel), List.mem_of_getElem? (i := 27) (by decide +kernel)⟩
theorem lk_X10_119 : Cond.methodLink RX10 119 yX10_detect ∈ lw_tbl := List.mem_of_getElem? (i := 885) (by decide +kernel)
theorem mf_X10_detect : MF yX10_detect cX10_detect 2 none 0 := ⟨List.mem_of_getElem? (i := 888) (by decide +kernel), List.mem_of_getElem? (i := 43) (by decide +kernel), ⟨by decide +kernel, by decide +kernel⟩, by decide +kernel, by decide +kernel⟩
theorem mv_X10_detect : MV yX10_detect := ⟨List.mem_of_getElem? (i := 887) (by decide +kernel), List.mem_of_getElem? (i := 28) (by decide +kernel)⟩
theorem lk_L_84 : Cond.methodLink RL 84 yX10_undo ∈ lw_tbl := List.mem_of_getElem? (i := 889) (by decide +kernel)
theorem mf_X10_undo : MF yX10_undo cX10_undo 2 (some .int) 0 := ⟨List.mem_of_getElem? (i := 892) (by decide +kernel), List.mem_of_getElem? (i := 43) (by decide +kernel), ⟨by decide +kernel, by decide +kernel⟩, by decide +kernel, by decide +kernel⟩
theorem mv_X10_undo : MV yX10_undo := ⟨List.mem_of_getElem? (i := 890) (by decide +kernel), List.mem_of_getElem? (i := 891) (by decide +kernel)⟩
theorem lk_L_88 : Cond.methodLink RL 88 yX10_count ∈ lw_tbl := List.mem_of_getElem? (i := 893) (by decide +kernel)
theorem mf_X10_count : MF yX10_count cX10_count 2 (some .int) 1 := ⟨List.mem_of_getElem? (i := 896) (by decide +kernel), List.mem_of_getElem? (i := 43) (by decide +kernel), ⟨by decide +kernel, by decide +kernel⟩, by decide +kernel, by decide +kernel⟩
theorem mv_X10_count : MV yX10_count := ⟨List.mem_of_getElem? (i := 894) (by decide +kernel), List.mem_of_getElem? (i := 895) (by decide +kernel)⟩
theorem lk_L_92 : Cond.methodLink RL 92 yX10_batch ∈ lw_tbl := List.mem_of_getElem? (i := 897) (by decide +kernel)
theorem mf_X10_batch : MF yX10_batch cX10_batch 2 (some .int) 1 := ⟨List.mem_of_getElem? (i := 900) (by decide +kernel), List.mem_of_getElem? (i := 43) (by decide +kernel), ⟨by decide +kernel, by decide +kernel⟩, by decide +kernel, by decide +kernel⟩
theorem mv_X10_batch : MV yX10_batch := ⟨List.mem_of_getElem? (i := 898) (by decide +kernel), List.mem_of_getElem? (i := 899) (by decide +kernel)⟩
theorem lk_L_96 : Cond.methodLink RL 96 yX10_target ∈ lw_tbl := List.mem_of_getElem? (i := 901) (by decide +kernel)
theorem mf_X10_target : MF yX10_target cX10_target 2 (some .int) 1 := ⟨List.mem_of_getElem? (i := 904) (by decide +kernel), List.mem_of_getElem? (i := 43) (by decide +kernel), ⟨by decide +kernel, by decide +kernel⟩, by decide +kernel, by decide +kernel⟩
theorem mv_X10_target : MV yX10_target := ⟨List.mem_of_getElem? (i := 902) (by decide +kernel), List.mem_of_getElem? (i := 903) (by decide +kernel)⟩
theorem lk_L_100 : Cond.methodLink RL 100 yX10_rate ∈ lw_tbl := List.mem_of_getElem? (i := 905) (by decide +kernel)
theorem mf_X10_rate : MF yX10_rate cX10_rate 2 (some .int) 1 := ⟨List.mem_of_getElem? (i := 908) (by decide +kernel), List.mem_of_getElem? (i := 43) (by decide +kernel), ⟨by decide +kernel, by decide +kernel⟩, by decide +kernel, by decide +kernel⟩
theorem mv_X10_rate : MV yX10_rate := ⟨List.mem_of_getElem? (i := 906) (by decide +kernel), List.mem_of_getElem? (i := 907) (by decide +kernel)⟩
theorem lk_L_104 : Cond.methodLink RL 104 yX10_logged ∈ lw_tbl := List.mem_of_getElem? (i := 909) (by decide +kernel)
theorem mf_X10_logged : MF yX10_logged cX10_logged 3 (some .int) 2 := ⟨List.mem_of_getElem? (i := 912) (by decide +kernel), List.mem_of_getElem? (i := 43) (by decide +kernel), ⟨by decide +kernel, by decide +kernel⟩, by decide +kernel, by decide +kernel⟩
theorem mv_X10_logged : MV yX10_logged := ⟨List.mem_of_getElem? (i := 910) (by decide +kernel), List.mem_of_getElem? (i := 911) (by decide +kernel)⟩
theorem lk_L_108 : Cond.methodLink RL 108 yX10_drift ∈ lw_tbl := List.mem_of_getElem? (i := 913) (by decide +kernel)
theorem mf_X10_drift : MF yX10_drift cX10_drift 18 (some .int) 1 := ⟨List.mem_of_getElem? (i := 916) (by decide +kernel), List.mem_of_getElem? (i := 43) (by decide +kernel), ⟨by decide +kernel, by decide +kernel⟩, by decide +kernel, by decide +kernel⟩
theorem mv_X10_drift : MV yX10_drift := ⟨List.mem_of_getElem? (i := 914) (by decide +kernel), List.mem_of_getElem? (i := 915) (by decide +kernel)⟩
theorem kl_X10_125 : Cond.constantLong RX10 125 (-100009) ∈ lw_tbl := List.mem_of_getElem? (i := 917) (by decide +kernel)
theorem kl_X10_127 : Cond.constantLong RX10 127 (2) ∈ lw_tbl := List.mem_of_getElem? (i := 918) (by decide +kernel)
theorem kl_X10_129 : Cond.constantLong RX10 129 (100) ∈ lw_tbl := List.mem_of_getElem? (i := 919) (by decide +kernel)
theorem lk_L_112 : Cond.methodLink RL 112 yX10_ticksTo ∈ lw_tbl := List.mem_of_getElem? (i := 920) (by decide +kernel)
theorem mf_X10_ticksTo : MF yX10_ticksTo cX10_ticksTo 2 (some .int) 1 := ⟨List.mem_of_getElem? (i := 923) (by decide +kernel), List.mem_of_getElem? (i := 43) (by decide +kernel), ⟨by decide +kernel, by decide +kernel⟩, by decide +kernel, by decide +kernel⟩
theorem mv_X10_ticksTo : MV yX10_ticksTo := ⟨List.mem_of_getElem? (i := 921) (by decide +kernel), List.mem_of_getElem? (i := 922) (by decide +kernel)⟩
theorem lk_X10_131 : Cond.methodLink RX10 131 yX10_ticksUntil ∈ lw_tbl := List.mem_of_getElem? (i := 924) (by decide +kernel)
theorem mf_X10_ticksUntil : MF yX10_ticksUntil cX10_ticksUntil 5 (some .int) 2 := ⟨List.mem_of_getElem? (i := 927) (by decide +kernel), List.mem_of_getElem? (i := 43) (by decide +kernel), ⟨by decide +kernel, by decide +kernel⟩, by decide +kernel, by decide +kernel⟩
theorem mv_X10_ticksUntil : MV yX10_ticksUntil := ⟨List.mem_of_getElem? (i := 926) (by decide +kernel), List.mem_of_getElem? (i := 29) (by decide +kernel)⟩
theorem lk_L_116 : Cond.methodLink RL 116 yX10_ticksToLoss ∈ lw_tbl := List.mem_of_getElem? (i := 928) (by decide +kernel)
theorem mf_X10_ticksToLoss : MF yX10_ticksToLoss cX10_ticksToLoss 2 (some .int) 1 := ⟨List.mem_of_getElem? (i := 931) (by decide +kernel), List.mem_of_getElem? (i := 43) (by decide +kernel), ⟨by decide +kernel, by decide +kernel⟩, by decide +kernel, by decide +kernel⟩
theorem mv_X10_ticksToLoss : MV yX10_ticksToLoss := ⟨List.mem_of_getElem? (i := 929) (by decide +kernel), List.mem_of_getElem? (i := 930) (by decide +kernel)⟩
theorem kc_X10_134 : Cond.constant RX10 134 (100000) ∈ lw_tbl := List.mem_of_getElem? (i := 932) (by decide +kernel)
theorem lk_L_120 : Cond.methodLink RL 120 yX10_bestBias ∈ lw_tbl := List.mem_of_getElem? (i := 933) (by decide +kernel)
theorem mf_X10_bestBias : MF yX10_bestBias cX10_bestBias 6 (some .int) 1 := ⟨List.mem_of_getElem? (i := 936) (by decide +kernel), List.mem_of_getElem? (i := 43) (by decide +kernel), ⟨by decide +kernel, by decide +kernel⟩, by decide +kernel, by decide +kernel⟩
theorem mv_X10_bestBias : MV yX10_bestBias := ⟨List.mem_of_getElem? (i := 934) (by decide +kernel), List.mem_of_getElem? (i := 935) (by decide +kernel)⟩
theorem lk_X10_135 : Cond.methodLink RX10 135 yX10_offWith ∈ lw_tbl := List.mem_of_getElem? (i := 937) (by decide +kernel)
theorem mf_X10_offWith : MF yX10_offWith cX10_offWith 6 (some .int) 2 := ⟨List.mem_of_getElem? (i := 940) (by decide +kernel), List.mem_of_getElem? (i := 43) (by decide +kernel), ⟨by decide +kernel, by decide +kernel⟩, by decide +kernel, by decide +kernel⟩
theorem mv_X10_offWith : MV yX10_offWith := ⟨List.mem_of_getElem? (i := 939) (by decide +kernel), List.mem_of_getElem? (i := 30) (by decide +kernel)⟩
theorem lk_copy : Cond.methodLink RX9 240 arraycopyName ∈ lw_tbl ∧ Cond.native arraycopyName ∈ lw_tbl ∧ Cond.static arraycopyName ∈ lw_tbl ∧ Cond.initialized "java/lang/System" ∈ lw_tbl := ⟨lk_X9_240, List.mem_of_getElem? (i := 403) (by decide +kernel), List.mem_of_getElem? (i := 402) (by decide +kernel), List.mem_of_getElem? (i := 44) (by decide +kernel)⟩
