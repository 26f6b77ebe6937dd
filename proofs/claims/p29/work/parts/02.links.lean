/-! what the tables say, word by word, each by its place in lw_tbl -/
def gw (w : Cond) : Bool := w.onTables && (w.keeps || (match w with | .methodLinkNest _ _ _ _ => true | _ => false))
/-- of a class: its table of fields, and that the tables have it -/
def CF (ci : Nat) (C : String) (T : u_T) (N : Nat) (ty : Nat → FieldType) : Prop :=
  vwCl[ci]? = some (C, T, N) ∧ (∀ w ∈ u_ws C T N, w ∈ lw_tbl ∧ gw w = true) ∧ (∀ k, k < N → parseFieldDescriptor (T k).2.2.1 = some (ty k)) ∧ (∀ a, a < N → ∀ b, b < N → a ≠ b → (T a).2.1 ≠ (T b).2.1)
/-- of a method: what a call needs -/
def MF (y : MethodName) (bytes : ByteArray) (maxL : Nat) (ret : Option FieldType) (n : Nat) : Prop :=
  Cond.code y bytes maxL ret ∈ lw_tbl ∧ Cond.initialized y.cls ∈ lw_tbl ∧ (y.cls ≠ "java/lang/invoke/MethodHandle" ∧ y.cls ≠ "java/lang/invoke/VarHandle") ∧ (parseMethodDescriptor y.desc).map (fun d => d.parameters.length) = some n ∧ plainFor y = true
def MV (y : MethodName) : Prop := Cond.instanceMethod y ∈ lw_tbl ∧ Cond.selects y.cls y y ∈ lw_tbl
theorem cf_X0 : CF 0 RX0 TX0 9 tyX0 := ⟨rfl, by decide +kernel, tyX0_ok, nmX0⟩
theorem cf_X1 : CF 1 RX1 TX1 3 tyX1 := ⟨rfl, by decide +kernel, tyX1_ok, nmX1⟩
theorem cf_X2 : CF 2 RX2 TX2 3 tyX2 := ⟨rfl, by decide +kernel, tyX2_ok, nmX2⟩
theorem cf_X3 : CF 3 RX3 TX3 2 tyX3 := ⟨rfl, by decide +kernel, tyX3_ok, nmX3⟩
theorem cf_X4 : CF 4 RX4 TX4 8 tyX4 := ⟨rfl, by decide +kernel, tyX4_ok, nmX4⟩
theorem cf_X5 : CF 5 RX5 TX5 10 tyX5 := ⟨rfl, by decide +kernel, tyX5_ok, nmX5⟩
theorem cf_X6 : CF 6 RX6 TX6 3 tyX6 := ⟨rfl, by decide +kernel, tyX6_ok, nmX6⟩
theorem cf_X7 : CF 7 RX7 TX7 4 tyX7 := ⟨rfl, by decide +kernel, tyX7_ok, nmX7⟩
theorem cf_X8 : CF 8 RX8 TX8 2 tyX8 := ⟨rfl, by decide +kernel, tyX8_ok, nmX8⟩
theorem cf_X9 : CF 9 RX9 TX9 10 tyX9 := ⟨rfl, by decide +kernel, tyX9_ok, nmX9⟩
theorem lk_L_78 : Cond.methodLink RL 78 yX9_init ∈ lw_tbl := List.mem_of_getElem? (i := 24) (by decide +kernel)
theorem mf_X9_init : MF yX9_init cX9_init 1 none 0 := ⟨List.mem_of_getElem? (i := 26) (by decide +kernel), List.mem_of_getElem? (i := 10) (by decide +kernel), ⟨by decide +kernel, by decide +kernel⟩, by decide +kernel, by decide +kernel⟩
theorem mi_X9_init : Cond.instanceMethod yX9_init ∈ lw_tbl := List.mem_of_getElem? (i := 25) (by decide +kernel)
theorem lk_X9_1 : Cond.methodLink RX9 1 objectInit ∈ lw_tbl := List.mem_of_getElem? (i := 27) (by decide +kernel)
theorem ln_X9_9 : Cond.methodLinkNest RX9 9 yX7_init RX9 ∈ lw_tbl := List.mem_of_getElem? (i := 32) (by decide +kernel)
theorem mf_X7_init : MF yX7_init cX7_init 1 none 0 := ⟨List.mem_of_getElem? (i := 34) (by decide +kernel), List.mem_of_getElem? (i := 11) (by decide +kernel), ⟨by decide +kernel, by decide +kernel⟩, by decide +kernel, by decide +kernel⟩
theorem mi_X7_init : Cond.instanceMethod yX7_init ∈ lw_tbl := List.mem_of_getElem? (i := 33) (by decide +kernel)
theorem lk_X7_3 : Cond.methodLink RX7 3 objectInit ∈ lw_tbl := List.mem_of_getElem? (i := 35) (by decide +kernel)
theorem ln_X7_11 : Cond.methodLinkNest RX7 11 yX4_init RX9 ∈ lw_tbl := List.mem_of_getElem? (i := 38) (by decide +kernel)
theorem mf_X4_init : MF yX4_init cX4_init 1 none 0 := ⟨List.mem_of_getElem? (i := 40) (by decide +kernel), List.mem_of_getElem? (i := 12) (by decide +kernel), ⟨by decide +kernel, by decide +kernel⟩, by decide +kernel, by decide +kernel⟩
theorem mi_X4_init : Cond.instanceMethod yX4_init ∈ lw_tbl := List.mem_of_getElem? (i := 39) (by decide +kernel)
theorem lk_X4_3 : Cond.methodLink RX4 3 objectInit ∈ lw_tbl := List.mem_of_getElem? (i := 41) (by decide +kernel)
theorem ln_X4_11 : Cond.methodLinkNest RX4 11 yX5_init RX9 ∈ lw_tbl := List.mem_of_getElem? (i := 44) (by decide +kernel)
theorem mf_X5_init : MF yX5_init cX5_init 1 none 0 := ⟨List.mem_of_getElem? (i := 46) (by decide +kernel), List.mem_of_getElem? (i := 13) (by decide +kernel), ⟨by decide +kernel, by decide +kernel⟩, by decide +kernel, by decide +kernel⟩
theorem mi_X5_init : Cond.instanceMethod yX5_init ∈ lw_tbl := List.mem_of_getElem? (i := 45) (by decide +kernel)
theorem lk_X5_1 : Cond.methodLink RX5 1 objectInit ∈ lw_tbl := List.mem_of_getElem? (i := 47) (by decide +kernel)
theorem fl_X5_7 : Cond.fieldLink RX5 7 "RoastKeeper$Settings" "ambient" "I" ∈ lw_tbl := List.mem_of_getElem? (i := 48) (by decide +kernel)
theorem fl_X9_82 : Cond.fieldLink RX9 82 "RoastKeeper$Settings" "ambient" "I" ∈ lw_tbl := List.mem_of_getElem? (i := 49) (by decide +kernel)
theorem fl_X4_51 : Cond.fieldLink RX4 51 "RoastKeeper$Settings" "ambient" "I" ∈ lw_tbl := List.mem_of_getElem? (i := 50) (by decide +kernel)
theorem fl_X5_13 : Cond.fieldLink RX5 13 "RoastKeeper$Settings" "controllerOn" "I" ∈ lw_tbl := List.mem_of_getElem? (i := 51) (by decide +kernel)
theorem fl_X9_91 : Cond.fieldLink RX9 91 "RoastKeeper$Settings" "controllerOn" "I" ∈ lw_tbl := List.mem_of_getElem? (i := 52) (by decide +kernel)
theorem fl_X4_105 : Cond.fieldLink RX4 105 "RoastKeeper$Settings" "controllerOn" "I" ∈ lw_tbl := List.mem_of_getElem? (i := 53) (by decide +kernel)
theorem fl_X5_16 : Cond.fieldLink RX5 16 "RoastKeeper$Settings" "p" "I" ∈ lw_tbl := List.mem_of_getElem? (i := 54) (by decide +kernel)
theorem fl_X9_94 : Cond.fieldLink RX9 94 "RoastKeeper$Settings" "p" "I" ∈ lw_tbl := List.mem_of_getElem? (i := 55) (by decide +kernel)
theorem fl_X4_121 : Cond.fieldLink RX4 121 "RoastKeeper$Settings" "p" "I" ∈ lw_tbl := List.mem_of_getElem? (i := 56) (by decide +kernel)
theorem fl_X5_19 : Cond.fieldLink RX5 19 "RoastKeeper$Settings" "i" "I" ∈ lw_tbl := List.mem_of_getElem? (i := 57) (by decide +kernel)
theorem fl_X9_97 : Cond.fieldLink RX9 97 "RoastKeeper$Settings" "i" "I" ∈ lw_tbl := List.mem_of_getElem? (i := 58) (by decide +kernel)
theorem fl_X4_130 : Cond.fieldLink RX4 130 "RoastKeeper$Settings" "i" "I" ∈ lw_tbl := List.mem_of_getElem? (i := 59) (by decide +kernel)
theorem fl_X5_22 : Cond.fieldLink RX5 22 "RoastKeeper$Settings" "bias" "I" ∈ lw_tbl := List.mem_of_getElem? (i := 60) (by decide +kernel)
theorem fl_X9_100 : Cond.fieldLink RX9 100 "RoastKeeper$Settings" "bias" "I" ∈ lw_tbl := List.mem_of_getElem? (i := 61) (by decide +kernel)
theorem fl_X4_118 : Cond.fieldLink RX4 118 "RoastKeeper$Settings" "bias" "I" ∈ lw_tbl := List.mem_of_getElem? (i := 62) (by decide +kernel)
theorem fl_X5_25 : Cond.fieldLink RX5 25 "RoastKeeper$Settings" "lag" "I" ∈ lw_tbl := List.mem_of_getElem? (i := 63) (by decide +kernel)
theorem fl_X9_103 : Cond.fieldLink RX9 103 "RoastKeeper$Settings" "lag" "I" ∈ lw_tbl := List.mem_of_getElem? (i := 64) (by decide +kernel)
theorem fl_X4_136 : Cond.fieldLink RX4 136 "RoastKeeper$Settings" "lag" "I" ∈ lw_tbl := List.mem_of_getElem? (i := 65) (by decide +kernel)
theorem fl_X5_28 : Cond.fieldLink RX5 28 "RoastKeeper$Settings" "fouling" "I" ∈ lw_tbl := List.mem_of_getElem? (i := 66) (by decide +kernel)
theorem fl_X9_106 : Cond.fieldLink RX9 106 "RoastKeeper$Settings" "fouling" "I" ∈ lw_tbl := List.mem_of_getElem? (i := 67) (by decide +kernel)
theorem fl_X5_31 : Cond.fieldLink RX5 31 "RoastKeeper$Settings" "crackTemperature" "I" ∈ lw_tbl := List.mem_of_getElem? (i := 68) (by decide +kernel)
theorem fl_X4_72 : Cond.fieldLink RX4 72 "RoastKeeper$Settings" "crackTemperature" "I" ∈ lw_tbl := List.mem_of_getElem? (i := 69) (by decide +kernel)
theorem fl_X9_109 : Cond.fieldLink RX9 109 "RoastKeeper$Settings" "crackTemperature" "I" ∈ lw_tbl := List.mem_of_getElem? (i := 70) (by decide +kernel)
theorem fl_X5_34 : Cond.fieldLink RX5 34 "RoastKeeper$Settings" "threshold" "I" ∈ lw_tbl := List.mem_of_getElem? (i := 71) (by decide +kernel)
theorem fl_X4_99 : Cond.fieldLink RX4 99 "RoastKeeper$Settings" "threshold" "I" ∈ lw_tbl := List.mem_of_getElem? (i := 72) (by decide +kernel)
theorem fl_X9_112 : Cond.fieldLink RX9 112 "RoastKeeper$Settings" "threshold" "I" ∈ lw_tbl := List.mem_of_getElem? (i := 73) (by decide +kernel)
theorem fl_X5_37 : Cond.fieldLink RX5 37 "RoastKeeper$Settings" "fan" "I" ∈ lw_tbl := List.mem_of_getElem? (i := 74) (by decide +kernel)
theorem fl_X4_90 : Cond.fieldLink RX4 90 "RoastKeeper$Settings" "fan" "I" ∈ lw_tbl := List.mem_of_getElem? (i := 75) (by decide +kernel)
theorem fl_X9_115 : Cond.fieldLink RX9 115 "RoastKeeper$Settings" "fan" "I" ∈ lw_tbl := List.mem_of_getElem? (i := 76) (by decide +kernel)
theorem ln_X4_20 : Cond.methodLinkNest RX4 20 yX0_init RX9 ∈ lw_tbl := List.mem_of_getElem? (i := 100) (by decide +kernel)
theorem mf_X0_init : MF yX0_init cX0_init 1 none 0 := ⟨List.mem_of_getElem? (i := 102) (by decide +kernel), List.mem_of_getElem? (i := 14) (by decide +kernel), ⟨by decide +kernel, by decide +kernel⟩, by decide +kernel, by decide +kernel⟩
theorem mi_X0_init : Cond.instanceMethod yX0_init ∈ lw_tbl := List.mem_of_getElem? (i := 101) (by decide +kernel)
theorem lk_X0_3 : Cond.methodLink RX0 3 objectInit ∈ lw_tbl := List.mem_of_getElem? (i := 103) (by decide +kernel)
theorem kc_X0_31 : Cond.constant RX0 31 (-100009) ∈ lw_tbl := List.mem_of_getElem? (i := 104) (by decide +kernel)
theorem fl_X0_9 : Cond.fieldLink RX0 9 "RoastKeeper$Beans" "temperature" "I" ∈ lw_tbl := List.mem_of_getElem? (i := 105) (by decide +kernel)
theorem fl_X4_81 : Cond.fieldLink RX4 81 "RoastKeeper$Beans" "temperature" "I" ∈ lw_tbl := List.mem_of_getElem? (i := 106) (by decide +kernel)
theorem fl_X9_186 : Cond.fieldLink RX9 186 "RoastKeeper$Beans" "temperature" "I" ∈ lw_tbl := List.mem_of_getElem? (i := 107) (by decide +kernel)
theorem fl_X0_15 : Cond.fieldLink RX0 15 "RoastKeeper$Beans" "mass" "I" ∈ lw_tbl := List.mem_of_getElem? (i := 108) (by decide +kernel)
theorem fl_X4_133 : Cond.fieldLink RX4 133 "RoastKeeper$Beans" "mass" "I" ∈ lw_tbl := List.mem_of_getElem? (i := 109) (by decide +kernel)
theorem fl_X0_18 : Cond.fieldLink RX0 18 "RoastKeeper$Beans" "age" "I" ∈ lw_tbl := List.mem_of_getElem? (i := 110) (by decide +kernel)
theorem fl_X2_40 : Cond.fieldLink RX2 40 "RoastKeeper$Beans" "age" "I" ∈ lw_tbl := List.mem_of_getElem? (i := 111) (by decide +kernel)
theorem fl_X4_58 : Cond.fieldLink RX4 58 "RoastKeeper$Beans" "age" "I" ∈ lw_tbl := List.mem_of_getElem? (i := 112) (by decide +kernel)
theorem fl_X9_227 : Cond.fieldLink RX9 227 "RoastKeeper$Beans" "age" "I" ∈ lw_tbl := List.mem_of_getElem? (i := 113) (by decide +kernel)
theorem fl_X0_21 : Cond.fieldLink RX0 21 "RoastKeeper$Beans" "loss" "I" ∈ lw_tbl := List.mem_of_getElem? (i := 114) (by decide +kernel)
theorem fl_X2_51 : Cond.fieldLink RX2 51 "RoastKeeper$Beans" "loss" "I" ∈ lw_tbl := List.mem_of_getElem? (i := 115) (by decide +kernel)
theorem fl_X4_78 : Cond.fieldLink RX4 78 "RoastKeeper$Beans" "loss" "I" ∈ lw_tbl := List.mem_of_getElem? (i := 116) (by decide +kernel)
theorem fl_X9_181 : Cond.fieldLink RX9 181 "RoastKeeper$Beans" "loss" "I" ∈ lw_tbl := List.mem_of_getElem? (i := 117) (by decide +kernel)
theorem fl_X0_24 : Cond.fieldLink RX0 24 "RoastKeeper$Beans" "pops" "I" ∈ lw_tbl := List.mem_of_getElem? (i := 118) (by decide +kernel)
theorem fl_X0_27 : Cond.fieldLink RX0 27 "RoastKeeper$Beans" "recentPops" "[I" ∈ lw_tbl := List.mem_of_getElem? (i := 119) (by decide +kernel)
theorem fl_X0_32 : Cond.fieldLink RX0 32 "RoastKeeper$Beans" "crackAt" "I" ∈ lw_tbl := List.mem_of_getElem? (i := 120) (by decide +kernel)
theorem fl_X2_45 : Cond.fieldLink RX2 45 "RoastKeeper$Beans" "crackAt" "I" ∈ lw_tbl := List.mem_of_getElem? (i := 121) (by decide +kernel)
theorem fl_X0_35 : Cond.fieldLink RX0 35 "RoastKeeper$Beans" "endedAt" "I" ∈ lw_tbl := List.mem_of_getElem? (i := 122) (by decide +kernel)
theorem fl_X2_48 : Cond.fieldLink RX2 48 "RoastKeeper$Beans" "endedAt" "I" ∈ lw_tbl := List.mem_of_getElem? (i := 123) (by decide +kernel)
theorem fl_X0_38 : Cond.fieldLink RX0 38 "RoastKeeper$Beans" "hottest" "I" ∈ lw_tbl := List.mem_of_getElem? (i := 124) (by decide +kernel)
theorem fl_X2_54 : Cond.fieldLink RX2 54 "RoastKeeper$Beans" "hottest" "I" ∈ lw_tbl := List.mem_of_getElem? (i := 125) (by decide +kernel)
theorem fl_X4_12 : Cond.fieldLink RX4 12 "RoastKeeper$Roaster" "settings" "LRoastKeeper$Settings;" ∈ lw_tbl := List.mem_of_getElem? (i := 146) (by decide +kernel)
theorem fl_X9_21 : Cond.fieldLink RX9 21 "RoastKeeper$Roaster" "settings" "LRoastKeeper$Settings;" ∈ lw_tbl := List.mem_of_getElem? (i := 147) (by decide +kernel)
theorem fl_X4_21 : Cond.fieldLink RX4 21 "RoastKeeper$Roaster" "beans" "LRoastKeeper$Beans;" ∈ lw_tbl := List.mem_of_getElem? (i := 148) (by decide +kernel)
theorem fl_X9_165 : Cond.fieldLink RX9 165 "RoastKeeper$Roaster" "beans" "LRoastKeeper$Beans;" ∈ lw_tbl := List.mem_of_getElem? (i := 149) (by decide +kernel)
theorem fl_X4_25 : Cond.fieldLink RX4 25 "RoastKeeper$Roaster" "time" "I" ∈ lw_tbl := List.mem_of_getElem? (i := 150) (by decide +kernel)
theorem fl_X9_189 : Cond.fieldLink RX9 189 "RoastKeeper$Roaster" "time" "I" ∈ lw_tbl := List.mem_of_getElem? (i := 151) (by decide +kernel)
theorem fl_X4_29 : Cond.fieldLink RX4 29 "RoastKeeper$Roaster" "phase" "I" ∈ lw_tbl := List.mem_of_getElem? (i := 152) (by decide +kernel)
theorem fl_X9_156 : Cond.fieldLink RX9 156 "RoastKeeper$Roaster" "phase" "I" ∈ lw_tbl := List.mem_of_getElem? (i := 153) (by decide +kernel)
theorem fl_X4_32 : Cond.fieldLink RX4 32 "RoastKeeper$Roaster" "drum" "I" ∈ lw_tbl := List.mem_of_getElem? (i := 154) (by decide +kernel)
theorem fl_X9_162 : Cond.fieldLink RX9 162 "RoastKeeper$Roaster" "drum" "I" ∈ lw_tbl := List.mem_of_getElem? (i := 155) (by decide +kernel)
theorem fl_X4_35 : Cond.fieldLink RX4 35 "RoastKeeper$Roaster" "probe" "I" ∈ lw_tbl := List.mem_of_getElem? (i := 156) (by decide +kernel)
theorem fl_X9_196 : Cond.fieldLink RX9 196 "RoastKeeper$Roaster" "probe" "I" ∈ lw_tbl := List.mem_of_getElem? (i := 157) (by decide +kernel)
theorem fl_X4_38 : Cond.fieldLink RX4 38 "RoastKeeper$Roaster" "power" "I" ∈ lw_tbl := List.mem_of_getElem? (i := 158) (by decide +kernel)
theorem fl_X9_88 : Cond.fieldLink RX9 88 "RoastKeeper$Roaster" "power" "I" ∈ lw_tbl := List.mem_of_getElem? (i := 159) (by decide +kernel)
theorem fl_X4_41 : Cond.fieldLink RX4 41 "RoastKeeper$Roaster" "sum" "I" ∈ lw_tbl := List.mem_of_getElem? (i := 160) (by decide +kernel)
theorem fl_X9_203 : Cond.fieldLink RX9 203 "RoastKeeper$Roaster" "sum" "I" ∈ lw_tbl := List.mem_of_getElem? (i := 161) (by decide +kernel)
theorem lk_X7_20 : Cond.methodLink RX7 20 yX6_init ∈ lw_tbl := List.mem_of_getElem? (i := 181) (by decide +kernel)
theorem mf_X6_init : MF yX6_init cX6_init 2 none 1 := ⟨List.mem_of_getElem? (i := 183) (by decide +kernel), List.mem_of_getElem? (i := 15) (by decide +kernel), ⟨by decide +kernel, by decide +kernel⟩, by decide +kernel, by decide +kernel⟩
theorem mi_X6_init : Cond.instanceMethod yX6_init ∈ lw_tbl := List.mem_of_getElem? (i := 182) (by decide +kernel)
theorem lk_X6_1 : Cond.methodLink RX6 1 objectInit ∈ lw_tbl := List.mem_of_getElem? (i := 184) (by decide +kernel)
theorem lk_X6_13 : Cond.methodLink RX6 13 yJ9_max_7cf53 ∈ lw_tbl := List.mem_of_getElem? (i := 185) (by decide +kernel)
theorem ms_J9_max_7cf53 : Cond.static yJ9_max_7cf53 ∈ lw_tbl := List.mem_of_getElem? (i := 186) (by decide +kernel)
theorem mf_J9_max_7cf53 : MF yJ9_max_7cf53 cJ9_max_7cf53 2 (some .int) 2 := ⟨List.mem_of_getElem? (i := 187) (by decide +kernel), List.mem_of_getElem? (i := 16) (by decide +kernel), ⟨by decide +kernel, by decide +kernel⟩, by decide +kernel, by decide +kernel⟩
theorem fl_X6_19 : Cond.fieldLink RX6 19 "RoastKeeper$SortedRows" "keys" "[I" ∈ lw_tbl := List.mem_of_getElem? (i := 188) (by decide +kernel)
theorem fl_X6_23 : Cond.fieldLink RX6 23 "RoastKeeper$SortedRows" "values" "[I" ∈ lw_tbl := List.mem_of_getElem? (i := 189) (by decide +kernel)
theorem fl_X6_7 : Cond.fieldLink RX6 7 "RoastKeeper$SortedRows" "size" "I" ∈ lw_tbl := List.mem_of_getElem? (i := 190) (by decide +kernel)
theorem fl_X3_24 : Cond.fieldLink RX3 24 "RoastKeeper$SortedRows" "size" "I" ∈ lw_tbl := List.mem_of_getElem? (i := 191) (by decide +kernel)
theorem fl_X4_108 : Cond.fieldLink RX4 108 "RoastKeeper$SortedRows" "size" "I" ∈ lw_tbl := List.mem_of_getElem? (i := 192) (by decide +kernel)
theorem fl_X9_123 : Cond.fieldLink RX9 123 "RoastKeeper$SortedRows" "size" "I" ∈ lw_tbl := List.mem_of_getElem? (i := 193) (by decide +kernel)
theorem ln_X7_32 : Cond.methodLinkNest RX7 32 yX2_init RX9 ∈ lw_tbl := List.mem_of_getElem? (i := 203) (by decide +kernel)
theorem mf_X2_init : MF yX2_init cX2_init 1 none 0 := ⟨List.mem_of_getElem? (i := 205) (by decide +kernel), List.mem_of_getElem? (i := 17) (by decide +kernel), ⟨by decide +kernel, by decide +kernel⟩, by decide +kernel, by decide +kernel⟩
theorem mi_X2_init : Cond.instanceMethod yX2_init ∈ lw_tbl := List.mem_of_getElem? (i := 204) (by decide +kernel)
theorem lk_X2_3 : Cond.methodLink RX2 3 objectInit ∈ lw_tbl := List.mem_of_getElem? (i := 206) (by decide +kernel)
theorem fl_X2_9 : Cond.fieldLink RX2 9 "RoastKeeper$Log" "entries" "[I" ∈ lw_tbl := List.mem_of_getElem? (i := 207) (by decide +kernel)
theorem fl_X2_15 : Cond.fieldLink RX2 15 "RoastKeeper$Log" "size" "I" ∈ lw_tbl := List.mem_of_getElem? (i := 208) (by decide +kernel)
theorem fl_X9_206 : Cond.fieldLink RX9 206 "RoastKeeper$Log" "size" "I" ∈ lw_tbl := List.mem_of_getElem? (i := 209) (by decide +kernel)
theorem fl_X2_19 : Cond.fieldLink RX2 19 "RoastKeeper$Log" "dropped" "I" ∈ lw_tbl := List.mem_of_getElem? (i := 210) (by decide +kernel)
theorem fl_X7_12 : Cond.fieldLink RX7 12 "RoastKeeper$State" "roaster" "LRoastKeeper$Roaster;" ∈ lw_tbl := List.mem_of_getElem? (i := 218) (by decide +kernel)
theorem fl_X9_16 : Cond.fieldLink RX9 16 "RoastKeeper$State" "roaster" "LRoastKeeper$Roaster;" ∈ lw_tbl := List.mem_of_getElem? (i := 219) (by decide +kernel)
theorem fl_X7_23 : Cond.fieldLink RX7 23 "RoastKeeper$State" "profile" "LRoastKeeper$SortedRows;" ∈ lw_tbl := List.mem_of_getElem? (i := 220) (by decide +kernel)
theorem fl_X9_28 : Cond.fieldLink RX9 28 "RoastKeeper$State" "profile" "LRoastKeeper$SortedRows;" ∈ lw_tbl := List.mem_of_getElem? (i := 221) (by decide +kernel)
theorem fl_X7_27 : Cond.fieldLink RX7 27 "RoastKeeper$State" "losses" "LRoastKeeper$SortedRows;" ∈ lw_tbl := List.mem_of_getElem? (i := 222) (by decide +kernel)
theorem fl_X9_33 : Cond.fieldLink RX9 33 "RoastKeeper$State" "losses" "LRoastKeeper$SortedRows;" ∈ lw_tbl := List.mem_of_getElem? (i := 223) (by decide +kernel)
theorem fl_X7_33 : Cond.fieldLink RX7 33 "RoastKeeper$State" "log" "LRoastKeeper$Log;" ∈ lw_tbl := List.mem_of_getElem? (i := 224) (by decide +kernel)
theorem fl_X9_37 : Cond.fieldLink RX9 37 "RoastKeeper$State" "log" "LRoastKeeper$Log;" ∈ lw_tbl := List.mem_of_getElem? (i := 225) (by decide +kernel)
theorem lk_X9_44 : Cond.methodLink RX9 44 yX1_init ∈ lw_tbl := List.mem_of_getElem? (i := 237) (by decide +kernel)
theorem mf_X1_init : MF yX1_init cX1_init 2 none 0 := ⟨List.mem_of_getElem? (i := 239) (by decide +kernel), List.mem_of_getElem? (i := 18) (by decide +kernel), ⟨by decide +kernel, by decide +kernel⟩, by decide +kernel, by decide +kernel⟩
theorem mi_X1_init : Cond.instanceMethod yX1_init ∈ lw_tbl := List.mem_of_getElem? (i := 238) (by decide +kernel)
theorem lk_X1_3 : Cond.methodLink RX1 3 objectInit ∈ lw_tbl := List.mem_of_getElem? (i := 240) (by decide +kernel)
theorem ln_X1_24 : Cond.methodLinkNest RX1 24 yX7_init RX9 ∈ lw_tbl := List.mem_of_getElem? (i := 243) (by decide +kernel)
theorem fl_X1_11 : Cond.fieldLink RX1 11 "RoastKeeper$History" "states" "[LRoastKeeper$State;" ∈ lw_tbl := List.mem_of_getElem? (i := 244) (by decide +kernel)
theorem fl_X1_17 : Cond.fieldLink RX1 17 "RoastKeeper$History" "oldest" "I" ∈ lw_tbl := List.mem_of_getElem? (i := 245) (by decide +kernel)
theorem fl_X1_21 : Cond.fieldLink RX1 21 "RoastKeeper$History" "size" "I" ∈ lw_tbl := List.mem_of_getElem? (i := 246) (by decide +kernel)
theorem fl_X9_199 : Cond.fieldLink RX9 199 "RoastKeeper$History" "size" "I" ∈ lw_tbl := List.mem_of_getElem? (i := 247) (by decide +kernel)
theorem ln_X9_51 : Cond.methodLinkNest RX9 51 yX8_init RX9 ∈ lw_tbl := List.mem_of_getElem? (i := 257) (by decide +kernel)
theorem mf_X8_init : MF yX8_init cX8_init 1 none 0 := ⟨List.mem_of_getElem? (i := 259) (by decide +kernel), List.mem_of_getElem? (i := 19) (by decide +kernel), ⟨by decide +kernel, by decide +kernel⟩, by decide +kernel, by decide +kernel⟩
theorem mi_X8_init : Cond.instanceMethod yX8_init ∈ lw_tbl := List.mem_of_getElem? (i := 258) (by decide +kernel)
theorem lk_X8_3 : Cond.methodLink RX8 3 objectInit ∈ lw_tbl := List.mem_of_getElem? (i := 260) (by decide +kernel)
theorem fl_X8_9 : Cond.fieldLink RX8 9 "RoastKeeper$Text" "characters" "[I" ∈ lw_tbl := List.mem_of_getElem? (i := 261) (by decide +kernel)
theorem fl_X8_15 : Cond.fieldLink RX8 15 "RoastKeeper$Text" "length" "I" ∈ lw_tbl := List.mem_of_getElem? (i := 262) (by decide +kernel)
theorem fl_X3_33 : Cond.fieldLink RX3 33 "RoastKeeper$Text" "length" "I" ∈ lw_tbl := List.mem_of_getElem? (i := 263) (by decide +kernel)
theorem fl_X9_138 : Cond.fieldLink RX9 138 "RoastKeeper$Text" "length" "I" ∈ lw_tbl := List.mem_of_getElem? (i := 264) (by decide +kernel)
theorem ln_X9_58 : Cond.methodLinkNest RX9 58 yX3_init RX9 ∈ lw_tbl := List.mem_of_getElem? (i := 272) (by decide +kernel)
theorem mf_X3_init : MF yX3_init cX3_init 1 none 0 := ⟨List.mem_of_getElem? (i := 274) (by decide +kernel), List.mem_of_getElem? (i := 20) (by decide +kernel), ⟨by decide +kernel, by decide +kernel⟩, by decide +kernel, by decide +kernel⟩
theorem mi_X3_init : Cond.instanceMethod yX3_init ∈ lw_tbl := List.mem_of_getElem? (i := 273) (by decide +kernel)
theorem lk_X3_3 : Cond.methodLink RX3 3 objectInit ∈ lw_tbl := List.mem_of_getElem? (i := 275) (by decide +kernel)
theorem lk_X3_11 : Cond.methodLink RX3 11 yX6_init ∈ lw_tbl := List.mem_of_getElem? (i := 277) (by decide +kernel)
theorem fl_X3_14 : Cond.fieldLink RX3 14 "RoastKeeper$ProfileReader" "points" "LRoastKeeper$SortedRows;" ∈ lw_tbl := List.mem_of_getElem? (i := 278) (by decide +kernel)
theorem fl_X9_149 : Cond.fieldLink RX9 149 "RoastKeeper$ProfileReader" "points" "LRoastKeeper$SortedRows;" ∈ lw_tbl := List.mem_of_getElem? (i := 279) (by decide +kernel)
theorem fl_X3_20 : Cond.fieldLink RX3 20 "RoastKeeper$ProfileReader" "tick" "I" ∈ lw_tbl := List.mem_of_getElem? (i := 280) (by decide +kernel)
theorem ln_X9_63 : Cond.methodLinkNest RX9 63 yX4_init RX9 ∈ lw_tbl := List.mem_of_getElem? (i := 287) (by decide +kernel)
theorem lk_X9_67 : Cond.methodLink RX9 67 yX6_set ∈ lw_tbl := List.mem_of_getElem? (i := 288) (by decide +kernel)
theorem mf_X6_set : MF yX6_set cX6_set 4 none 2 := ⟨List.mem_of_getElem? (i := 291) (by decide +kernel), List.mem_of_getElem? (i := 15) (by decide +kernel), ⟨by decide +kernel, by decide +kernel⟩, by decide +kernel, by decide +kernel⟩
theorem mv_X6_set : MV yX6_set := ⟨List.mem_of_getElem? (i := 289) (by decide +kernel), List.mem_of_getElem? (i := 290) (by decide +kernel)⟩
theorem lk_X6_39 : Cond.methodLink RX6 39 yX6_indexBelow ∈ lw_tbl := List.mem_of_getElem? (i := 292) (by decide +kernel)
theorem mf_X6_indexBelow : MF yX6_indexBelow cX6_indexBelow 4 (some .int) 1 := ⟨List.mem_of_getElem? (i := 295) (by decide +kernel), List.mem_of_getElem? (i := 15) (by decide +kernel), ⟨by decide +kernel, by decide +kernel⟩, by decide +kernel, by decide +kernel⟩
theorem mv_X6_indexBelow : MV yX6_indexBelow := ⟨List.mem_of_getElem? (i := 293) (by decide +kernel), List.mem_of_getElem? (i := 294) (by decide +kernel)⟩
theorem ln_X6_35 : Cond.methodLinkNest RX6 35 yX9_at RX9 ∈ lw_tbl := List.mem_of_getElem? (i := 296) (by decide +kernel)
theorem ms_X9_at : Cond.static yX9_at ∈ lw_tbl := List.mem_of_getElem? (i := 297) (by decide +kernel)
theorem mf_X9_at : MF yX9_at cX9_at 2 (some .int) 2 := ⟨List.mem_of_getElem? (i := 298) (by decide +kernel), List.mem_of_getElem? (i := 10) (by decide +kernel), ⟨by decide +kernel, by decide +kernel⟩, by decide +kernel, by decide +kernel⟩
theorem ln_X6_47 : Cond.methodLinkNest RX6 47 yX9_put RX9 ∈ lw_tbl := List.mem_of_getElem? (i := 299) (by decide +kernel)
theorem ms_X9_put : Cond.static yX9_put ∈ lw_tbl := List.mem_of_getElem? (i := 300) (by decide +kernel)
theorem mf_X9_put : MF yX9_put cX9_put 3 none 3 := ⟨List.mem_of_getElem? (i := 301) (by decide +kernel), List.mem_of_getElem? (i := 10) (by decide +kernel), ⟨by decide +kernel, by decide +kernel⟩, by decide +kernel, by decide +kernel⟩
theorem lk_X6_51 : Cond.methodLink RX6 51 yX6_insert ∈ lw_tbl := List.mem_of_getElem? (i := 302) (by decide +kernel)
theorem mf_X6_insert : MF yX6_insert cX6_insert 5 none 3 := ⟨List.mem_of_getElem? (i := 305) (by decide +kernel), List.mem_of_getElem? (i := 15) (by decide +kernel), ⟨by decide +kernel, by decide +kernel⟩, by decide +kernel, by decide +kernel⟩
theorem mv_X6_insert : MV yX6_insert := ⟨List.mem_of_getElem? (i := 304) (by decide +kernel), List.mem_of_getElem? (i := 0) (by decide +kernel)⟩
theorem fl_X9_10 : Cond.fieldLink RX9 10 "RoastKeeper" "now" "LRoastKeeper$State;" ∈ lw_tbl := List.mem_of_getElem? (i := 306) (by decide +kernel)
theorem fl_X9_20 : Cond.fieldLink RX9 20 "RoastKeeper" "roaster" "LRoastKeeper$Roaster;" ∈ lw_tbl := List.mem_of_getElem? (i := 307) (by decide +kernel)
theorem fl_X9_27 : Cond.fieldLink RX9 27 "RoastKeeper" "settings" "LRoastKeeper$Settings;" ∈ lw_tbl := List.mem_of_getElem? (i := 308) (by decide +kernel)
theorem fl_X9_32 : Cond.fieldLink RX9 32 "RoastKeeper" "profile" "LRoastKeeper$SortedRows;" ∈ lw_tbl := List.mem_of_getElem? (i := 309) (by decide +kernel)
theorem fl_X9_36 : Cond.fieldLink RX9 36 "RoastKeeper" "losses" "LRoastKeeper$SortedRows;" ∈ lw_tbl := List.mem_of_getElem? (i := 310) (by decide +kernel)
theorem fl_X9_41 : Cond.fieldLink RX9 41 "RoastKeeper" "log" "LRoastKeeper$Log;" ∈ lw_tbl := List.mem_of_getElem? (i := 311) (by decide +kernel)
theorem fl_X9_45 : Cond.fieldLink RX9 45 "RoastKeeper" "history" "LRoastKeeper$History;" ∈ lw_tbl := List.mem_of_getElem? (i := 312) (by decide +kernel)
theorem fl_X9_52 : Cond.fieldLink RX9 52 "RoastKeeper" "text" "LRoastKeeper$Text;" ∈ lw_tbl := List.mem_of_getElem? (i := 313) (by decide +kernel)
theorem fl_X9_59 : Cond.fieldLink RX9 59 "RoastKeeper" "reader" "LRoastKeeper$ProfileReader;" ∈ lw_tbl := List.mem_of_getElem? (i := 314) (by decide +kernel)
theorem fl_X9_64 : Cond.fieldLink RX9 64 "RoastKeeper" "trial" "LRoastKeeper$Roaster;" ∈ lw_tbl := List.mem_of_getElem? (i := 315) (by decide +kernel)
theorem lk_L_39 : Cond.methodLink RL 39 yX9_setPower ∈ lw_tbl := List.mem_of_getElem? (i := 337) (by decide +kernel)
theorem mf_X9_setPower : MF yX9_setPower cX9_setPower 3 (some .int) 1 := ⟨List.mem_of_getElem? (i := 340) (by decide +kernel), List.mem_of_getElem? (i := 10) (by decide +kernel), ⟨by decide +kernel, by decide +kernel⟩, by decide +kernel, by decide +kernel⟩
theorem mv_X9_setPower : MV yX9_setPower := ⟨List.mem_of_getElem? (i := 338) (by decide +kernel), List.mem_of_getElem? (i := 339) (by decide +kernel)⟩
theorem lk_X9_73 : Cond.methodLink RX9 73 yX9_inRange ∈ lw_tbl := List.mem_of_getElem? (i := 341) (by decide +kernel)
theorem ms_X9_inRange : Cond.static yX9_inRange ∈ lw_tbl := List.mem_of_getElem? (i := 342) (by decide +kernel)
theorem mf_X9_inRange : MF yX9_inRange cX9_inRange 3 (some .boolean) 3 := ⟨List.mem_of_getElem? (i := 343) (by decide +kernel), List.mem_of_getElem? (i := 10) (by decide +kernel), ⟨by decide +kernel, by decide +kernel⟩, by decide +kernel, by decide +kernel⟩
theorem kc_X9_77 : Cond.constant RX9 77 (-100001) ∈ lw_tbl := List.mem_of_getElem? (i := 344) (by decide +kernel)
theorem lk_X9_78 : Cond.methodLink RX9 78 yX1_remember ∈ lw_tbl := List.mem_of_getElem? (i := 345) (by decide +kernel)
theorem mf_X1_remember : MF yX1_remember cX1_remember 3 none 1 := ⟨List.mem_of_getElem? (i := 348) (by decide +kernel), List.mem_of_getElem? (i := 18) (by decide +kernel), ⟨by decide +kernel, by decide +kernel⟩, by decide +kernel, by decide +kernel⟩
theorem mv_X1_remember : MV yX1_remember := ⟨List.mem_of_getElem? (i := 346) (by decide +kernel), List.mem_of_getElem? (i := 347) (by decide +kernel)⟩
theorem lk_X1_25 : Cond.methodLink RX1 25 yX1_slot ∈ lw_tbl := List.mem_of_getElem? (i := 349) (by decide +kernel)
theorem mf_X1_slot : MF yX1_slot cX1_slot 3 (some (.object "RoastKeeper$State")) 1 := ⟨List.mem_of_getElem? (i := 352) (by decide +kernel), List.mem_of_getElem? (i := 18) (by decide +kernel), ⟨by decide +kernel, by decide +kernel⟩, by decide +kernel, by decide +kernel⟩
theorem mv_X1_slot : MV yX1_slot := ⟨List.mem_of_getElem? (i := 351) (by decide +kernel), List.mem_of_getElem? (i := 1) (by decide +kernel)⟩
theorem lk_X1_33 : Cond.methodLink RX1 33 yJ9_floorMod_7cf53 ∈ lw_tbl := List.mem_of_getElem? (i := 353) (by decide +kernel)
theorem ms_J9_floorMod_7cf53 : Cond.static yJ9_floorMod_7cf53 ∈ lw_tbl := List.mem_of_getElem? (i := 354) (by decide +kernel)
theorem mf_J9_floorMod_7cf53 : MF yJ9_floorMod_7cf53 cJ9_floorMod_7cf53 3 (some .int) 2 := ⟨List.mem_of_getElem? (i := 355) (by decide +kernel), List.mem_of_getElem? (i := 16) (by decide +kernel), ⟨by decide +kernel, by decide +kernel⟩, by decide +kernel, by decide +kernel⟩
theorem lk_X1_29 : Cond.methodLink RX1 29 yX7_copyFrom ∈ lw_tbl := List.mem_of_getElem? (i := 356) (by decide +kernel)
theorem mf_X7_copyFrom : MF yX7_copyFrom cX7_copyFrom 2 none 1 := ⟨List.mem_of_getElem? (i := 359) (by decide +kernel), List.mem_of_getElem? (i := 11) (by decide +kernel), ⟨by decide +kernel, by decide +kernel⟩, by decide +kernel, by decide +kernel⟩
theorem mv_X7_copyFrom : MV yX7_copyFrom := ⟨List.mem_of_getElem? (i := 357) (by decide +kernel), List.mem_of_getElem? (i := 358) (by decide +kernel)⟩
theorem lk_X7_37 : Cond.methodLink RX7 37 yX4_copyFrom ∈ lw_tbl := List.mem_of_getElem? (i := 360) (by decide +kernel)
theorem mf_X4_copyFrom : MF yX4_copyFrom cX4_copyFrom 2 none 1 := ⟨List.mem_of_getElem? (i := 363) (by decide +kernel), List.mem_of_getElem? (i := 12) (by decide +kernel), ⟨by decide +kernel, by decide +kernel⟩, by decide +kernel, by decide +kernel⟩
theorem mv_X4_copyFrom : MV yX4_copyFrom := ⟨List.mem_of_getElem? (i := 361) (by decide +kernel), List.mem_of_getElem? (i := 362) (by decide +kernel)⟩
theorem lk_X4_44 : Cond.methodLink RX4 44 yX5_copyFrom ∈ lw_tbl := List.mem_of_getElem? (i := 364) (by decide +kernel)
theorem mf_X5_copyFrom : MF yX5_copyFrom cX5_copyFrom 2 none 1 := ⟨List.mem_of_getElem? (i := 367) (by decide +kernel), List.mem_of_getElem? (i := 13) (by decide +kernel), ⟨by decide +kernel, by decide +kernel⟩, by decide +kernel, by decide +kernel⟩
theorem mv_X5_copyFrom : MV yX5_copyFrom := ⟨List.mem_of_getElem? (i := 365) (by decide +kernel), List.mem_of_getElem? (i := 366) (by decide +kernel)⟩
theorem lk_X4_48 : Cond.methodLink RX4 48 yX0_copyFrom ∈ lw_tbl := List.mem_of_getElem? (i := 368) (by decide +kernel)
theorem mf_X0_copyFrom : MF yX0_copyFrom cX0_copyFrom 2 none 1 := ⟨List.mem_of_getElem? (i := 371) (by decide +kernel), List.mem_of_getElem? (i := 14) (by decide +kernel), ⟨by decide +kernel, by decide +kernel⟩, by decide +kernel, by decide +kernel⟩
theorem mv_X0_copyFrom : MV yX0_copyFrom := ⟨List.mem_of_getElem? (i := 369) (by decide +kernel), List.mem_of_getElem? (i := 370) (by decide +kernel)⟩
theorem ln_X0_41 : Cond.methodLinkNest RX0 41 yX9_copyRow RX9 ∈ lw_tbl := List.mem_of_getElem? (i := 372) (by decide +kernel)
theorem ms_X9_copyRow : Cond.static yX9_copyRow ∈ lw_tbl := List.mem_of_getElem? (i := 373) (by decide +kernel)
theorem mf_X9_copyRow : MF yX9_copyRow cX9_copyRow 2 none 2 := ⟨List.mem_of_getElem? (i := 374) (by decide +kernel), List.mem_of_getElem? (i := 10) (by decide +kernel), ⟨by decide +kernel, by decide +kernel⟩, by decide +kernel, by decide +kernel⟩
theorem lk_X9_175 : Cond.methodLink RX9 175 yJ9_min_7cf53 ∈ lw_tbl := List.mem_of_getElem? (i := 375) (by decide +kernel)
theorem ms_J9_min_7cf53 : Cond.static yJ9_min_7cf53 ∈ lw_tbl := List.mem_of_getElem? (i := 376) (by decide +kernel)
theorem mf_J9_min_7cf53 : MF yJ9_min_7cf53 cJ9_min_7cf53 2 (some .int) 2 := ⟨List.mem_of_getElem? (i := 377) (by decide +kernel), List.mem_of_getElem? (i := 16) (by decide +kernel), ⟨by decide +kernel, by decide +kernel⟩, by decide +kernel, by decide +kernel⟩
theorem lk_X9_240 : Cond.methodLink RX9 240 arraycopyName ∈ lw_tbl := List.mem_of_getElem? (i := 378) (by decide +kernel)
theorem lk_X7_41 : Cond.methodLink RX7 41 yX6_copyFrom ∈ lw_tbl := List.mem_of_getElem? (i := 381) (by decide +kernel)
theorem mf_X6_copyFrom : MF yX6_copyFrom cX6_copyFrom 2 none 1 := ⟨List.mem_of_getElem? (i := 384) (by decide +kernel), List.mem_of_getElem? (i := 15) (by decide +kernel), ⟨by decide +kernel, by decide +kernel⟩, by decide +kernel, by decide +kernel⟩
theorem mv_X6_copyFrom : MV yX6_copyFrom := ⟨List.mem_of_getElem? (i := 382) (by decide +kernel), List.mem_of_getElem? (i := 383) (by decide +kernel)⟩
theorem ln_X6_26 : Cond.methodLinkNest RX6 26 yX9_copyRow RX9 ∈ lw_tbl := List.mem_of_getElem? (i := 385) (by decide +kernel)
theorem lk_X6_32 : Cond.methodLink RX6 32 yJ9_min_7cf53 ∈ lw_tbl := List.mem_of_getElem? (i := 386) (by decide +kernel)
theorem lk_X7_44 : Cond.methodLink RX7 44 yX2_copyFrom ∈ lw_tbl := List.mem_of_getElem? (i := 387) (by decide +kernel)
theorem mf_X2_copyFrom : MF yX2_copyFrom cX2_copyFrom 2 none 1 := ⟨List.mem_of_getElem? (i := 390) (by decide +kernel), List.mem_of_getElem? (i := 17) (by decide +kernel), ⟨by decide +kernel, by decide +kernel⟩, by decide +kernel, by decide +kernel⟩
theorem mv_X2_copyFrom : MV yX2_copyFrom := ⟨List.mem_of_getElem? (i := 388) (by decide +kernel), List.mem_of_getElem? (i := 389) (by decide +kernel)⟩
theorem ln_X2_22 : Cond.methodLinkNest RX2 22 yX9_copyRow RX9 ∈ lw_tbl := List.mem_of_getElem? (i := 391) (by decide +kernel)
theorem lk_L_52 : Cond.methodLink RL 52 yX9_setFan ∈ lw_tbl := List.mem_of_getElem? (i := 392) (by decide +kernel)
theorem mf_X9_setFan : MF yX9_setFan cX9_setFan 3 (some .int) 1 := ⟨List.mem_of_getElem? (i := 395) (by decide +kernel), List.mem_of_getElem? (i := 10) (by decide +kernel), ⟨by decide +kernel, by decide +kernel⟩, by decide +kernel, by decide +kernel⟩
theorem mv_X9_setFan : MV yX9_setFan := ⟨List.mem_of_getElem? (i := 393) (by decide +kernel), List.mem_of_getElem? (i := 394) (by decide +kernel)⟩
theorem lk_L_61 : Cond.methodLink RL 61 yX9_setRow ∈ lw_tbl := List.mem_of_getElem? (i := 396) (by decide +kernel)
theorem mf_X9_setRow : MF yX9_setRow cX9_setRow 4 (some .int) 2 := ⟨List.mem_of_getElem? (i := 399) (by decide +kernel), List.mem_of_getElem? (i := 10) (by decide +kernel), ⟨by decide +kernel, by decide +kernel⟩, by decide +kernel, by decide +kernel⟩
theorem mv_X9_setRow : MV yX9_setRow := ⟨List.mem_of_getElem? (i := 397) (by decide +kernel), List.mem_of_getElem? (i := 398) (by decide +kernel)⟩
theorem lk_X9_126 : Cond.methodLink RX9 126 yX6_has ∈ lw_tbl := List.mem_of_getElem? (i := 400) (by decide +kernel)
theorem mf_X6_has : MF yX6_has cX6_has 3 (some .boolean) 1 := ⟨List.mem_of_getElem? (i := 403) (by decide +kernel), List.mem_of_getElem? (i := 15) (by decide +kernel), ⟨by decide +kernel, by decide +kernel⟩, by decide +kernel, by decide +kernel⟩
theorem mv_X6_has : MV yX6_has := ⟨List.mem_of_getElem? (i := 401) (by decide +kernel), List.mem_of_getElem? (i := 402) (by decide +kernel)⟩
theorem kc_X9_129 : Cond.constant RX9 129 (-100002) ∈ lw_tbl := List.mem_of_getElem? (i := 404) (by decide +kernel)
theorem lk_X9_118 : Cond.methodLink RX9 118 yX6_hasRoomFor ∈ lw_tbl := List.mem_of_getElem? (i := 405) (by decide +kernel)
theorem mf_X6_hasRoomFor : MF yX6_hasRoomFor cX6_hasRoomFor 2 (some .boolean) 1 := ⟨List.mem_of_getElem? (i := 408) (by decide +kernel), List.mem_of_getElem? (i := 15) (by decide +kernel), ⟨by decide +kernel, by decide +kernel⟩, by decide +kernel, by decide +kernel⟩
theorem mv_X6_hasRoomFor : MV yX6_hasRoomFor := ⟨List.mem_of_getElem? (i := 406) (by decide +kernel), List.mem_of_getElem? (i := 407) (by decide +kernel)⟩
theorem lk_X6_43 : Cond.methodLink RX6 43 yX6_has ∈ lw_tbl := List.mem_of_getElem? (i := 409) (by decide +kernel)
theorem kc_X9_122 : Cond.constant RX9 122 (-100003) ∈ lw_tbl := List.mem_of_getElem? (i := 410) (by decide +kernel)
theorem lk_X9_134 : Cond.methodLink RX9 134 yX6_remove ∈ lw_tbl := List.mem_of_getElem? (i := 411) (by decide +kernel)
theorem mf_X6_remove : MF yX6_remove cX6_remove 3 none 1 := ⟨List.mem_of_getElem? (i := 414) (by decide +kernel), List.mem_of_getElem? (i := 15) (by decide +kernel), ⟨by decide +kernel, by decide +kernel⟩, by decide +kernel, by decide +kernel⟩
theorem mv_X6_remove : MV yX6_remove := ⟨List.mem_of_getElem? (i := 412) (by decide +kernel), List.mem_of_getElem? (i := 413) (by decide +kernel)⟩
theorem lk_L_112 : Cond.methodLink RL 112 yX9_append ∈ lw_tbl := List.mem_of_getElem? (i := 415) (by decide +kernel)
theorem mf_X9_append : MF yX9_append cX9_append 2 (some .int) 1 := ⟨List.mem_of_getElem? (i := 418) (by decide +kernel), List.mem_of_getElem? (i := 10) (by decide +kernel), ⟨by decide +kernel, by decide +kernel⟩, by decide +kernel, by decide +kernel⟩
theorem mv_X9_append : MV yX9_append := ⟨List.mem_of_getElem? (i := 416) (by decide +kernel), List.mem_of_getElem? (i := 417) (by decide +kernel)⟩
theorem lk_X9_141 : Cond.methodLink RX9 141 yX8_add ∈ lw_tbl := List.mem_of_getElem? (i := 419) (by decide +kernel)
theorem mf_X8_add : MF yX8_add cX8_add 2 none 1 := ⟨List.mem_of_getElem? (i := 422) (by decide +kernel), List.mem_of_getElem? (i := 19) (by decide +kernel), ⟨by decide +kernel, by decide +kernel⟩, by decide +kernel, by decide +kernel⟩
theorem mv_X8_add : MV yX8_add := ⟨List.mem_of_getElem? (i := 420) (by decide +kernel), List.mem_of_getElem? (i := 421) (by decide +kernel)⟩
theorem ln_X8_19 : Cond.methodLinkNest RX8 19 yX9_put RX9 ∈ lw_tbl := List.mem_of_getElem? (i := 423) (by decide +kernel)
theorem lk_L_109 : Cond.methodLink RL 109 yX9_load ∈ lw_tbl := List.mem_of_getElem? (i := 424) (by decide +kernel)
theorem mf_X9_load : MF yX9_load cX9_load 2 (some .int) 0 := ⟨List.mem_of_getElem? (i := 427) (by decide +kernel), List.mem_of_getElem? (i := 10) (by decide +kernel), ⟨by decide +kernel, by decide +kernel⟩, by decide +kernel, by decide +kernel⟩
theorem mv_X9_load : MV yX9_load := ⟨List.mem_of_getElem? (i := 425) (by decide +kernel), List.mem_of_getElem? (i := 426) (by decide +kernel)⟩
theorem lk_X9_144 : Cond.methodLink RX9 144 yX3_errorPosition ∈ lw_tbl := List.mem_of_getElem? (i := 428) (by decide +kernel)
theorem mf_X3_errorPosition : MF yX3_errorPosition cX3_errorPosition 6 (some .int) 1 := ⟨List.mem_of_getElem? (i := 431) (by decide +kernel), List.mem_of_getElem? (i := 20) (by decide +kernel), ⟨by decide +kernel, by decide +kernel⟩, by decide +kernel, by decide +kernel⟩
theorem mv_X3_errorPosition : MV yX3_errorPosition := ⟨List.mem_of_getElem? (i := 429) (by decide +kernel), List.mem_of_getElem? (i := 430) (by decide +kernel)⟩
theorem lk_X3_27 : Cond.methodLink RX3 27 yX8_afterSpaces ∈ lw_tbl := List.mem_of_getElem? (i := 432) (by decide +kernel)
theorem mf_X8_afterSpaces : MF yX8_afterSpaces cX8_afterSpaces 4 (some .int) 1 := ⟨List.mem_of_getElem? (i := 435) (by decide +kernel), List.mem_of_getElem? (i := 19) (by decide +kernel), ⟨by decide +kernel, by decide +kernel⟩, by decide +kernel, by decide +kernel⟩
theorem mv_X8_afterSpaces : MV yX8_afterSpaces := ⟨List.mem_of_getElem? (i := 433) (by decide +kernel), List.mem_of_getElem? (i := 434) (by decide +kernel)⟩
theorem lk_X8_27 : Cond.methodLink RX8 27 yX8_character ∈ lw_tbl := List.mem_of_getElem? (i := 436) (by decide +kernel)
theorem mf_X8_character : MF yX8_character cX8_character 2 (some .int) 1 := ⟨List.mem_of_getElem? (i := 439) (by decide +kernel), List.mem_of_getElem? (i := 19) (by decide +kernel), ⟨by decide +kernel, by decide +kernel⟩, by decide +kernel, by decide +kernel⟩
theorem mv_X8_character : MV yX8_character := ⟨List.mem_of_getElem? (i := 437) (by decide +kernel), List.mem_of_getElem? (i := 438) (by decide +kernel)⟩
theorem ln_X8_23 : Cond.methodLinkNest RX8 23 yX9_at RX9 ∈ lw_tbl := List.mem_of_getElem? (i := 440) (by decide +kernel)
theorem lk_X3_36 : Cond.methodLink RX3 36 yX8_afterToken ∈ lw_tbl := List.mem_of_getElem? (i := 441) (by decide +kernel)
theorem mf_X8_afterToken : MF yX8_afterToken cX8_afterToken 4 (some .int) 1 := ⟨List.mem_of_getElem? (i := 444) (by decide +kernel), List.mem_of_getElem? (i := 19) (by decide +kernel), ⟨by decide +kernel, by decide +kernel⟩, by decide +kernel, by decide +kernel⟩
theorem mv_X8_afterToken : MV yX8_afterToken := ⟨List.mem_of_getElem? (i := 442) (by decide +kernel), List.mem_of_getElem? (i := 443) (by decide +kernel)⟩
theorem lk_X8_35 : Cond.methodLink RX8 35 yX8_isDigit ∈ lw_tbl := List.mem_of_getElem? (i := 445) (by decide +kernel)
theorem mf_X8_isDigit : MF yX8_isDigit cX8_isDigit 2 (some .boolean) 1 := ⟨List.mem_of_getElem? (i := 448) (by decide +kernel), List.mem_of_getElem? (i := 19) (by decide +kernel), ⟨by decide +kernel, by decide +kernel⟩, by decide +kernel, by decide +kernel⟩
theorem mv_X8_isDigit : MV yX8_isDigit := ⟨List.mem_of_getElem? (i := 446) (by decide +kernel), List.mem_of_getElem? (i := 447) (by decide +kernel)⟩
theorem ln_X8_31 : Cond.methodLinkNest RX8 31 yX9_inRange RX9 ∈ lw_tbl := List.mem_of_getElem? (i := 449) (by decide +kernel)
theorem lk_X3_39 : Cond.methodLink RX3 39 yX3_takes ∈ lw_tbl := List.mem_of_getElem? (i := 450) (by decide +kernel)
theorem mf_X3_takes : MF yX3_takes cX3_takes 5 (some .boolean) 4 := ⟨List.mem_of_getElem? (i := 453) (by decide +kernel), List.mem_of_getElem? (i := 20) (by decide +kernel), ⟨by decide +kernel, by decide +kernel⟩, by decide +kernel, by decide +kernel⟩
theorem mv_X3_takes : MV yX3_takes := ⟨List.mem_of_getElem? (i := 452) (by decide +kernel), List.mem_of_getElem? (i := 2) (by decide +kernel)⟩
theorem lk_X3_43 : Cond.methodLink RX3 43 yX8_numberIn ∈ lw_tbl := List.mem_of_getElem? (i := 454) (by decide +kernel)
theorem mf_X8_numberIn : MF yX8_numberIn cX8_numberIn 5 (some .int) 2 := ⟨List.mem_of_getElem? (i := 457) (by decide +kernel), List.mem_of_getElem? (i := 19) (by decide +kernel), ⟨by decide +kernel, by decide +kernel⟩, by decide +kernel, by decide +kernel⟩
theorem mv_X8_numberIn : MV yX8_numberIn := ⟨List.mem_of_getElem? (i := 455) (by decide +kernel), List.mem_of_getElem? (i := 456) (by decide +kernel)⟩
theorem kc_X8_39 : Cond.constant RX8 39 (100000) ∈ lw_tbl := List.mem_of_getElem? (i := 458) (by decide +kernel)
theorem lk_X8_40 : Cond.methodLink RX8 40 yJ9_min_7cf53 ∈ lw_tbl := List.mem_of_getElem? (i := 459) (by decide +kernel)
theorem lk_X3_47 : Cond.methodLink RX3 47 yX3_takesTick ∈ lw_tbl := List.mem_of_getElem? (i := 460) (by decide +kernel)
theorem mf_X3_takesTick : MF yX3_takesTick cX3_takesTick 2 (some .boolean) 1 := ⟨List.mem_of_getElem? (i := 463) (by decide +kernel), List.mem_of_getElem? (i := 20) (by decide +kernel), ⟨by decide +kernel, by decide +kernel⟩, by decide +kernel, by decide +kernel⟩
theorem mv_X3_takesTick : MV yX3_takesTick := ⟨List.mem_of_getElem? (i := 462) (by decide +kernel), List.mem_of_getElem? (i := 3) (by decide +kernel)⟩
theorem ln_X3_57 : Cond.methodLinkNest RX3 57 yX9_inRange RX9 ∈ lw_tbl := List.mem_of_getElem? (i := 464) (by decide +kernel)
theorem lk_X3_51 : Cond.methodLink RX3 51 yX3_takesTemperature ∈ lw_tbl := List.mem_of_getElem? (i := 465) (by decide +kernel)
theorem mf_X3_takesTemperature : MF yX3_takesTemperature cX3_takesTemperature 2 (some .boolean) 1 := ⟨List.mem_of_getElem? (i := 468) (by decide +kernel), List.mem_of_getElem? (i := 20) (by decide +kernel), ⟨by decide +kernel, by decide +kernel⟩, by decide +kernel, by decide +kernel⟩
theorem mv_X3_takesTemperature : MV yX3_takesTemperature := ⟨List.mem_of_getElem? (i := 467) (by decide +kernel), List.mem_of_getElem? (i := 4) (by decide +kernel)⟩
theorem lk_X3_61 : Cond.methodLink RX3 61 yX6_set ∈ lw_tbl := List.mem_of_getElem? (i := 469) (by decide +kernel)
theorem lk_X3_54 : Cond.methodLink RX3 54 yX8_character ∈ lw_tbl := List.mem_of_getElem? (i := 470) (by decide +kernel)
theorem kc_X9_148 : Cond.constant RX9 148 (-200000) ∈ lw_tbl := List.mem_of_getElem? (i := 471) (by decide +kernel)
theorem lk_X9_152 : Cond.methodLink RX9 152 yX6_copyFrom ∈ lw_tbl := List.mem_of_getElem? (i := 472) (by decide +kernel)
theorem lk_L_64 : Cond.methodLink RL 64 yX9_charge ∈ lw_tbl := List.mem_of_getElem? (i := 473) (by decide +kernel)
theorem mf_X9_charge : MF yX9_charge cX9_charge 2 (some .int) 1 := ⟨List.mem_of_getElem? (i := 476) (by decide +kernel), List.mem_of_getElem? (i := 10) (by decide +kernel), ⟨by decide +kernel, by decide +kernel⟩, by decide +kernel, by decide +kernel⟩
theorem mv_X9_charge : MV yX9_charge := ⟨List.mem_of_getElem? (i := 474) (by decide +kernel), List.mem_of_getElem? (i := 475) (by decide +kernel)⟩
theorem lk_X9_159 : Cond.methodLink RX9 159 yX4_startBatch ∈ lw_tbl := List.mem_of_getElem? (i := 477) (by decide +kernel)
theorem mf_X4_startBatch : MF yX4_startBatch cX4_startBatch 2 none 1 := ⟨List.mem_of_getElem? (i := 480) (by decide +kernel), List.mem_of_getElem? (i := 12) (by decide +kernel), ⟨by decide +kernel, by decide +kernel⟩, by decide +kernel, by decide +kernel⟩
theorem mv_X4_startBatch : MV yX4_startBatch := ⟨List.mem_of_getElem? (i := 478) (by decide +kernel), List.mem_of_getElem? (i := 479) (by decide +kernel)⟩
theorem lk_X4_54 : Cond.methodLink RX4 54 yX0_start ∈ lw_tbl := List.mem_of_getElem? (i := 481) (by decide +kernel)
theorem mf_X0_start : MF yX0_start cX0_start 4 none 2 := ⟨List.mem_of_getElem? (i := 484) (by decide +kernel), List.mem_of_getElem? (i := 14) (by decide +kernel), ⟨by decide +kernel, by decide +kernel⟩, by decide +kernel, by decide +kernel⟩
theorem mv_X0_start : MV yX0_start := ⟨List.mem_of_getElem? (i := 482) (by decide +kernel), List.mem_of_getElem? (i := 483) (by decide +kernel)⟩
theorem ln_X0_45 : Cond.methodLinkNest RX0 45 yX9_put RX9 ∈ lw_tbl := List.mem_of_getElem? (i := 485) (by decide +kernel)
theorem lk_L_75 : Cond.methodLink RL 75 yX9_run ∈ lw_tbl := List.mem_of_getElem? (i := 486) (by decide +kernel)
theorem mf_X9_run : MF yX9_run cX9_run 3 (some .int) 1 := ⟨List.mem_of_getElem? (i := 489) (by decide +kernel), List.mem_of_getElem? (i := 10) (by decide +kernel), ⟨by decide +kernel, by decide +kernel⟩, by decide +kernel, by decide +kernel⟩
theorem mv_X9_run : MV yX9_run := ⟨List.mem_of_getElem? (i := 487) (by decide +kernel), List.mem_of_getElem? (i := 488) (by decide +kernel)⟩
theorem lk_X9_192 : Cond.methodLink RX9 192 yX4_tick ∈ lw_tbl := List.mem_of_getElem? (i := 490) (by decide +kernel)
theorem mf_X4_tick : MF yX4_tick cX4_tick 3 none 2 := ⟨List.mem_of_getElem? (i := 493) (by decide +kernel), List.mem_of_getElem? (i := 12) (by decide +kernel), ⟨by decide +kernel, by decide +kernel⟩, by decide +kernel, by decide +kernel⟩
theorem mv_X4_tick : MV yX4_tick := ⟨List.mem_of_getElem? (i := 491) (by decide +kernel), List.mem_of_getElem? (i := 492) (by decide +kernel)⟩
theorem lk_X4_61 : Cond.methodLink RX4 61 yX4_steer ∈ lw_tbl := List.mem_of_getElem? (i := 494) (by decide +kernel)
theorem mf_X4_steer : MF yX4_steer cX4_steer 4 none 1 := ⟨List.mem_of_getElem? (i := 497) (by decide +kernel), List.mem_of_getElem? (i := 12) (by decide +kernel), ⟨by decide +kernel, by decide +kernel⟩, by decide +kernel, by decide +kernel⟩
theorem mv_X4_steer : MV yX4_steer := ⟨List.mem_of_getElem? (i := 496) (by decide +kernel), List.mem_of_getElem? (i := 5) (by decide +kernel)⟩
theorem lk_X4_111 : Cond.methodLink RX4 111 yX6_valueOnLine ∈ lw_tbl := List.mem_of_getElem? (i := 498) (by decide +kernel)
theorem mf_X6_valueOnLine : MF yX6_valueOnLine cX6_valueOnLine 6 (some .int) 1 := ⟨List.mem_of_getElem? (i := 501) (by decide +kernel), List.mem_of_getElem? (i := 15) (by decide +kernel), ⟨by decide +kernel, by decide +kernel⟩, by decide +kernel, by decide +kernel⟩
theorem mv_X6_valueOnLine : MV yX6_valueOnLine := ⟨List.mem_of_getElem? (i := 499) (by decide +kernel), List.mem_of_getElem? (i := 500) (by decide +kernel)⟩
theorem ln_X6_55 : Cond.methodLinkNest RX6 55 yX9_quotient RX9 ∈ lw_tbl := List.mem_of_getElem? (i := 502) (by decide +kernel)
theorem ms_X9_quotient : Cond.static yX9_quotient ∈ lw_tbl := List.mem_of_getElem? (i := 503) (by decide +kernel)
theorem mf_X9_quotient : MF yX9_quotient cX9_quotient 4 (some .long) 2 := ⟨List.mem_of_getElem? (i := 504) (by decide +kernel), List.mem_of_getElem? (i := 10) (by decide +kernel), ⟨by decide +kernel, by decide +kernel⟩, by decide +kernel, by decide +kernel⟩
theorem lk_X9_236 : Cond.methodLink RX9 236 yJ9_floorDiv_f86c9 ∈ lw_tbl := List.mem_of_getElem? (i := 505) (by decide +kernel)
theorem ms_J9_floorDiv_f86c9 : Cond.static yJ9_floorDiv_f86c9 ∈ lw_tbl := List.mem_of_getElem? (i := 506) (by decide +kernel)
theorem mf_J9_floorDiv_f86c9 : MF yJ9_floorDiv_f86c9 cJ9_floorDiv_f86c9 6 (some .long) 2 := ⟨List.mem_of_getElem? (i := 507) (by decide +kernel), List.mem_of_getElem? (i := 16) (by decide +kernel), ⟨by decide +kernel, by decide +kernel⟩, by decide +kernel, by decide +kernel⟩
theorem ln_X4_114 : Cond.methodLinkNest RX4 114 yX9_clamp RX9 ∈ lw_tbl := List.mem_of_getElem? (i := 508) (by decide +kernel)
theorem ms_X9_clamp : Cond.static yX9_clamp ∈ lw_tbl := List.mem_of_getElem? (i := 509) (by decide +kernel)
theorem mf_X9_clamp : MF yX9_clamp cX9_clamp 3 (some .int) 3 := ⟨List.mem_of_getElem? (i := 510) (by decide +kernel), List.mem_of_getElem? (i := 10) (by decide +kernel), ⟨by decide +kernel, by decide +kernel⟩, by decide +kernel, by decide +kernel⟩
theorem lk_X9_233 : Cond.methodLink RX9 233 yJ9_max_7cf53 ∈ lw_tbl := List.mem_of_getElem? (i := 511) (by decide +kernel)
theorem lk_X4_124 : Cond.methodLink RX4 124 yJ9_floorDiv_7cf53 ∈ lw_tbl := List.mem_of_getElem? (i := 512) (by decide +kernel)
theorem ms_J9_floorDiv_7cf53 : Cond.static yJ9_floorDiv_7cf53 ∈ lw_tbl := List.mem_of_getElem? (i := 513) (by decide +kernel)
theorem mf_J9_floorDiv_7cf53 : MF yJ9_floorDiv_7cf53 cJ9_floorDiv_7cf53 3 (some .int) 2 := ⟨List.mem_of_getElem? (i := 514) (by decide +kernel), List.mem_of_getElem? (i := 16) (by decide +kernel), ⟨by decide +kernel, by decide +kernel⟩, by decide +kernel, by decide +kernel⟩
theorem lk_X4_65 : Cond.methodLink RX4 65 yX4_moveDrum ∈ lw_tbl := List.mem_of_getElem? (i := 515) (by decide +kernel)
theorem mf_X4_moveDrum : MF yX4_moveDrum cX4_moveDrum 3 none 0 := ⟨List.mem_of_getElem? (i := 518) (by decide +kernel), List.mem_of_getElem? (i := 12) (by decide +kernel), ⟨by decide +kernel, by decide +kernel⟩, by decide +kernel, by decide +kernel⟩
theorem mv_X4_moveDrum : MV yX4_moveDrum := ⟨List.mem_of_getElem? (i := 517) (by decide +kernel), List.mem_of_getElem? (i := 6) (by decide +kernel)⟩
theorem lk_X4_68 : Cond.methodLink RX4 68 yX0_roast ∈ lw_tbl := List.mem_of_getElem? (i := 519) (by decide +kernel)
theorem mf_X0_roast : MF yX0_roast cX0_roast 2 none 1 := ⟨List.mem_of_getElem? (i := 522) (by decide +kernel), List.mem_of_getElem? (i := 14) (by decide +kernel), ⟨by decide +kernel, by decide +kernel⟩, by decide +kernel, by decide +kernel⟩
theorem mv_X0_roast : MV yX0_roast := ⟨List.mem_of_getElem? (i := 520) (by decide +kernel), List.mem_of_getElem? (i := 521) (by decide +kernel)⟩
theorem lk_X0_49 : Cond.methodLink RX0 49 yJ9_floorDiv_7cf53 ∈ lw_tbl := List.mem_of_getElem? (i := 523) (by decide +kernel)
theorem lk_X0_55 : Cond.methodLink RX0 55 yJ9_max_7cf53 ∈ lw_tbl := List.mem_of_getElem? (i := 524) (by decide +kernel)
theorem lk_X4_75 : Cond.methodLink RX4 75 yX0_pop ∈ lw_tbl := List.mem_of_getElem? (i := 525) (by decide +kernel)
theorem mf_X0_pop : MF yX0_pop cX0_pop 4 none 1 := ⟨List.mem_of_getElem? (i := 528) (by decide +kernel), List.mem_of_getElem? (i := 14) (by decide +kernel), ⟨by decide +kernel, by decide +kernel⟩, by decide +kernel, by decide +kernel⟩
theorem mv_X0_pop : MV yX0_pop := ⟨List.mem_of_getElem? (i := 526) (by decide +kernel), List.mem_of_getElem? (i := 527) (by decide +kernel)⟩
theorem lk_X0_58 : Cond.methodLink RX0 58 yJ9_min_7cf53 ∈ lw_tbl := List.mem_of_getElem? (i := 529) (by decide +kernel)
theorem lk_X0_61 : Cond.methodLink RX0 61 yJ9_floorMod_7cf53 ∈ lw_tbl := List.mem_of_getElem? (i := 530) (by decide +kernel)
theorem lk_X4_84 : Cond.methodLink RX4 84 yX6_valueBelow ∈ lw_tbl := List.mem_of_getElem? (i := 531) (by decide +kernel)
theorem mf_X6_valueBelow : MF yX6_valueBelow cX6_valueBelow 3 (some .int) 1 := ⟨List.mem_of_getElem? (i := 534) (by decide +kernel), List.mem_of_getElem? (i := 15) (by decide +kernel), ⟨by decide +kernel, by decide +kernel⟩, by decide +kernel, by decide +kernel⟩
theorem mv_X6_valueBelow : MV yX6_valueBelow := ⟨List.mem_of_getElem? (i := 532) (by decide +kernel), List.mem_of_getElem? (i := 533) (by decide +kernel)⟩
theorem lk_X4_93 : Cond.methodLink RX4 93 yX0_cool ∈ lw_tbl := List.mem_of_getElem? (i := 535) (by decide +kernel)
theorem mf_X0_cool : MF yX0_cool cX0_cool 3 none 2 := ⟨List.mem_of_getElem? (i := 538) (by decide +kernel), List.mem_of_getElem? (i := 14) (by decide +kernel), ⟨by decide +kernel, by decide +kernel⟩, by decide +kernel, by decide +kernel⟩
theorem mv_X0_cool : MV yX0_cool := ⟨List.mem_of_getElem? (i := 536) (by decide +kernel), List.mem_of_getElem? (i := 537) (by decide +kernel)⟩
theorem lk_X4_96 : Cond.methodLink RX4 96 yX4_moveProbe ∈ lw_tbl := List.mem_of_getElem? (i := 539) (by decide +kernel)
theorem mf_X4_moveProbe : MF yX4_moveProbe cX4_moveProbe 2 none 0 := ⟨List.mem_of_getElem? (i := 542) (by decide +kernel), List.mem_of_getElem? (i := 12) (by decide +kernel), ⟨by decide +kernel, by decide +kernel⟩, by decide +kernel, by decide +kernel⟩
theorem mv_X4_moveProbe : MV yX4_moveProbe := ⟨List.mem_of_getElem? (i := 541) (by decide +kernel), List.mem_of_getElem? (i := 7) (by decide +kernel)⟩
theorem ln_X4_139 : Cond.methodLinkNest RX4 139 yX9_quotient RX9 ∈ lw_tbl := List.mem_of_getElem? (i := 543) (by decide +kernel)
theorem lk_X4_102 : Cond.methodLink RX4 102 yX0_lookForCrack ∈ lw_tbl := List.mem_of_getElem? (i := 544) (by decide +kernel)
theorem mf_X0_lookForCrack : MF yX0_lookForCrack cX0_lookForCrack 3 none 1 := ⟨List.mem_of_getElem? (i := 547) (by decide +kernel), List.mem_of_getElem? (i := 14) (by decide +kernel), ⟨by decide +kernel, by decide +kernel⟩, by decide +kernel, by decide +kernel⟩
theorem mv_X0_lookForCrack : MV yX0_lookForCrack := ⟨List.mem_of_getElem? (i := 545) (by decide +kernel), List.mem_of_getElem? (i := 546) (by decide +kernel)⟩
theorem lk_X0_64 : Cond.methodLink RX0 64 yX0_window ∈ lw_tbl := List.mem_of_getElem? (i := 548) (by decide +kernel)
theorem mf_X0_window : MF yX0_window cX0_window 3 (some .int) 0 := ⟨List.mem_of_getElem? (i := 551) (by decide +kernel), List.mem_of_getElem? (i := 14) (by decide +kernel), ⟨by decide +kernel, by decide +kernel⟩, by decide +kernel, by decide +kernel⟩
theorem mv_X0_window : MV yX0_window := ⟨List.mem_of_getElem? (i := 549) (by decide +kernel), List.mem_of_getElem? (i := 550) (by decide +kernel)⟩
theorem ln_X0_68 : Cond.methodLinkNest RX0 68 yX9_at RX9 ∈ lw_tbl := List.mem_of_getElem? (i := 552) (by decide +kernel)
theorem lk_L_95 : Cond.methodLink RL 95 yX9_undo ∈ lw_tbl := List.mem_of_getElem? (i := 553) (by decide +kernel)
theorem mf_X9_undo : MF yX9_undo cX9_undo 1 (some .int) 0 := ⟨List.mem_of_getElem? (i := 556) (by decide +kernel), List.mem_of_getElem? (i := 10) (by decide +kernel), ⟨by decide +kernel, by decide +kernel⟩, by decide +kernel, by decide +kernel⟩
theorem mv_X9_undo : MV yX9_undo := ⟨List.mem_of_getElem? (i := 554) (by decide +kernel), List.mem_of_getElem? (i := 555) (by decide +kernel)⟩
theorem lk_X9_200 : Cond.methodLink RX9 200 yX1_restore ∈ lw_tbl := List.mem_of_getElem? (i := 557) (by decide +kernel)
theorem mf_X1_restore : MF yX1_restore cX1_restore 3 none 1 := ⟨List.mem_of_getElem? (i := 560) (by decide +kernel), List.mem_of_getElem? (i := 18) (by decide +kernel), ⟨by decide +kernel, by decide +kernel⟩, by decide +kernel, by decide +kernel⟩
theorem mv_X1_restore : MV yX1_restore := ⟨List.mem_of_getElem? (i := 558) (by decide +kernel), List.mem_of_getElem? (i := 559) (by decide +kernel)⟩
theorem lk_L_12 : Cond.methodLink RL 12 yX9_count ∈ lw_tbl := List.mem_of_getElem? (i := 561) (by decide +kernel)
theorem mf_X9_count : MF yX9_count cX9_count 2 (some .int) 1 := ⟨List.mem_of_getElem? (i := 564) (by decide +kernel), List.mem_of_getElem? (i := 10) (by decide +kernel), ⟨by decide +kernel, by decide +kernel⟩, by decide +kernel, by decide +kernel⟩
theorem mv_X9_count : MV yX9_count := ⟨List.mem_of_getElem? (i := 562) (by decide +kernel), List.mem_of_getElem? (i := 563) (by decide +kernel)⟩
theorem lk_L_25 : Cond.methodLink RL 25 yX9_target ∈ lw_tbl := List.mem_of_getElem? (i := 565) (by decide +kernel)
theorem mf_X9_target : MF yX9_target cX9_target 2 (some .int) 1 := ⟨List.mem_of_getElem? (i := 568) (by decide +kernel), List.mem_of_getElem? (i := 10) (by decide +kernel), ⟨by decide +kernel, by decide +kernel⟩, by decide +kernel, by decide +kernel⟩
theorem mv_X9_target : MV yX9_target := ⟨List.mem_of_getElem? (i := 566) (by decide +kernel), List.mem_of_getElem? (i := 567) (by decide +kernel)⟩
theorem kc_X9_210 : Cond.constant RX9 210 (-100009) ∈ lw_tbl := List.mem_of_getElem? (i := 569) (by decide +kernel)
theorem lk_X9_211 : Cond.methodLink RX9 211 yX6_valueOnLine ∈ lw_tbl := List.mem_of_getElem? (i := 570) (by decide +kernel)
theorem lk_L_98 : Cond.methodLink RL 98 yX9_ticksTo ∈ lw_tbl := List.mem_of_getElem? (i := 571) (by decide +kernel)
theorem mf_X9_ticksTo : MF yX9_ticksTo cX9_ticksTo 3 (some .int) 1 := ⟨List.mem_of_getElem? (i := 574) (by decide +kernel), List.mem_of_getElem? (i := 10) (by decide +kernel), ⟨by decide +kernel, by decide +kernel⟩, by decide +kernel, by decide +kernel⟩
theorem mv_X9_ticksTo : MV yX9_ticksTo := ⟨List.mem_of_getElem? (i := 572) (by decide +kernel), List.mem_of_getElem? (i := 573) (by decide +kernel)⟩
theorem lk_X9_220 : Cond.methodLink RX9 220 yX4_copyFrom ∈ lw_tbl := List.mem_of_getElem? (i := 575) (by decide +kernel)
theorem lk_L_102 : Cond.methodLink RL 102 yX9_ticksToLoss ∈ lw_tbl := List.mem_of_getElem? (i := 576) (by decide +kernel)
theorem mf_X9_ticksToLoss : MF yX9_ticksToLoss cX9_ticksToLoss 3 (some .int) 1 := ⟨List.mem_of_getElem? (i := 579) (by decide +kernel), List.mem_of_getElem? (i := 10) (by decide +kernel), ⟨by decide +kernel, by decide +kernel⟩, by decide +kernel, by decide +kernel⟩
theorem mv_X9_ticksToLoss : MV yX9_ticksToLoss := ⟨List.mem_of_getElem? (i := 577) (by decide +kernel), List.mem_of_getElem? (i := 578) (by decide +kernel)⟩
theorem kc_X9_223 : Cond.constant RX9 223 (100000) ∈ lw_tbl := List.mem_of_getElem? (i := 580) (by decide +kernel)
theorem lk_L_105 : Cond.methodLink RL 105 yX9_bestBias ∈ lw_tbl := List.mem_of_getElem? (i := 581) (by decide +kernel)
theorem mf_X9_bestBias : MF yX9_bestBias cX9_bestBias 6 (some .int) 1 := ⟨List.mem_of_getElem? (i := 584) (by decide +kernel), List.mem_of_getElem? (i := 10) (by decide +kernel), ⟨by decide +kernel, by decide +kernel⟩, by decide +kernel, by decide +kernel⟩
theorem mv_X9_bestBias : MV yX9_bestBias := ⟨List.mem_of_getElem? (i := 582) (by decide +kernel), List.mem_of_getElem? (i := 583) (by decide +kernel)⟩
theorem lk_X9_224 : Cond.methodLink RX9 224 yX9_deviationWith ∈ lw_tbl := List.mem_of_getElem? (i := 585) (by decide +kernel)
theorem mf_X9_deviationWith : MF yX9_deviationWith cX9_deviationWith 5 (some .int) 2 := ⟨List.mem_of_getElem? (i := 588) (by decide +kernel), List.mem_of_getElem? (i := 10) (by decide +kernel), ⟨by decide +kernel, by decide +kernel⟩, by decide +kernel, by decide +kernel⟩
theorem mv_X9_deviationWith : MV yX9_deviationWith := ⟨List.mem_of_getElem? (i := 587) (by decide +kernel), List.mem_of_getElem? (i := 8) (by decide +kernel)⟩
theorem lk_X9_230 : Cond.methodLink RX9 230 yJ9_abs_0f7a4 ∈ lw_tbl := List.mem_of_getElem? (i := 589) (by decide +kernel)
theorem ms_J9_abs_0f7a4 : Cond.static yJ9_abs_0f7a4 ∈ lw_tbl := List.mem_of_getElem? (i := 590) (by decide +kernel)
theorem mf_J9_abs_0f7a4 : MF yJ9_abs_0f7a4 cJ9_abs_0f7a4 1 (some .int) 1 := ⟨List.mem_of_getElem? (i := 591) (by decide +kernel), List.mem_of_getElem? (i := 16) (by decide +kernel), ⟨by decide +kernel, by decide +kernel⟩, by decide +kernel, by decide +kernel⟩
theorem lk_L_79 : Cond.methodLink RL 79 yL_cell ∈ lw_tbl := List.mem_of_getElem? (i := 592) (by decide +kernel)
theorem ms_L_cell : Cond.static yL_cell ∈ lw_tbl := List.mem_of_getElem? (i := 593) (by decide +kernel)
theorem mf_L_cell : MF yL_cell cL_cell 2 (some .int) 2 := ⟨List.mem_of_getElem? (i := 594) (by decide +kernel), List.mem_of_getElem? (i := 9) (by decide +kernel), ⟨by decide +kernel, by decide +kernel⟩, by decide +kernel, by decide +kernel⟩
theorem lk_L_31 : Cond.methodLink RL 31 yL_low ∈ lw_tbl := List.mem_of_getElem? (i := 595) (by decide +kernel)
theorem ms_L_low : Cond.static yL_low ∈ lw_tbl := List.mem_of_getElem? (i := 596) (by decide +kernel)
theorem mf_L_low : MF yL_low cL_low 2 (some .int) 2 := ⟨List.mem_of_getElem? (i := 597) (by decide +kernel), List.mem_of_getElem? (i := 9) (by decide +kernel), ⟨by decide +kernel, by decide +kernel⟩, by decide +kernel, by decide +kernel⟩
theorem kc_L_7 : Cond.constant RL 7 (2147483647) ∈ lw_tbl := List.mem_of_getElem? (i := 598) (by decide +kernel)
theorem lk_L_83 : Cond.methodLink RL 83 yL_digest ∈ lw_tbl := List.mem_of_getElem? (i := 599) (by decide +kernel)
theorem ms_L_digest : Cond.static yL_digest ∈ lw_tbl := List.mem_of_getElem? (i := 600) (by decide +kernel)
theorem mf_L_digest : MF yL_digest cL_digest 4 (some .long) 1 := ⟨List.mem_of_getElem? (i := 601) (by decide +kernel), List.mem_of_getElem? (i := 9) (by decide +kernel), ⟨by decide +kernel, by decide +kernel⟩, by decide +kernel, by decide +kernel⟩
theorem kl_L_8 : Cond.constantLong RL 8 (7) ∈ lw_tbl := List.mem_of_getElem? (i := 602) (by decide +kernel)
theorem kl_L_10 : Cond.constantLong RL 10 (31) ∈ lw_tbl := List.mem_of_getElem? (i := 603) (by decide +kernel)
theorem lk_L_18 : Cond.methodLink RL 18 yX9_batch ∈ lw_tbl := List.mem_of_getElem? (i := 604) (by decide +kernel)
theorem mf_X9_batch : MF yX9_batch cX9_batch 2 (some .int) 1 := ⟨List.mem_of_getElem? (i := 607) (by decide +kernel), List.mem_of_getElem? (i := 10) (by decide +kernel), ⟨by decide +kernel, by decide +kernel⟩, by decide +kernel, by decide +kernel⟩
theorem mv_X9_batch : MV yX9_batch := ⟨List.mem_of_getElem? (i := 605) (by decide +kernel), List.mem_of_getElem? (i := 606) (by decide +kernel)⟩
theorem lk_X9_207 : Cond.methodLink RX9 207 yX0_number ∈ lw_tbl := List.mem_of_getElem? (i := 608) (by decide +kernel)
theorem mf_X0_number : MF yX0_number cX0_number 2 (some .int) 1 := ⟨List.mem_of_getElem? (i := 611) (by decide +kernel), List.mem_of_getElem? (i := 14) (by decide +kernel), ⟨by decide +kernel, by decide +kernel⟩, by decide +kernel, by decide +kernel⟩
theorem mv_X0_number : MV yX0_number := ⟨List.mem_of_getElem? (i := 609) (by decide +kernel), List.mem_of_getElem? (i := 610) (by decide +kernel)⟩
theorem kc_X0_72 : Cond.constant RX0 72 (-100001) ∈ lw_tbl := List.mem_of_getElem? (i := 612) (by decide +kernel)
theorem lk_L_21 : Cond.methodLink RL 21 yX9_logged ∈ lw_tbl := List.mem_of_getElem? (i := 613) (by decide +kernel)
theorem mf_X9_logged : MF yX9_logged cX9_logged 3 (some .int) 2 := ⟨List.mem_of_getElem? (i := 616) (by decide +kernel), List.mem_of_getElem? (i := 10) (by decide +kernel), ⟨by decide +kernel, by decide +kernel⟩, by decide +kernel, by decide +kernel⟩
theorem mv_X9_logged : MV yX9_logged := ⟨List.mem_of_getElem? (i := 614) (by decide +kernel), List.mem_of_getElem? (i := 615) (by decide +kernel)⟩
theorem lk_X9_214 : Cond.methodLink RX9 214 yX2_property ∈ lw_tbl := List.mem_of_getElem? (i := 617) (by decide +kernel)
theorem mf_X2_property : MF yX2_property cX2_property 3 (some .int) 2 := ⟨List.mem_of_getElem? (i := 620) (by decide +kernel), List.mem_of_getElem? (i := 17) (by decide +kernel), ⟨by decide +kernel, by decide +kernel⟩, by decide +kernel, by decide +kernel⟩
theorem mv_X2_property : MV yX2_property := ⟨List.mem_of_getElem? (i := 618) (by decide +kernel), List.mem_of_getElem? (i := 619) (by decide +kernel)⟩
theorem ln_X2_26 : Cond.methodLinkNest RX2 26 yX9_at RX9 ∈ lw_tbl := List.mem_of_getElem? (i := 621) (by decide +kernel)
theorem lk_L_28 : Cond.methodLink RL 28 yX9_rate ∈ lw_tbl := List.mem_of_getElem? (i := 622) (by decide +kernel)
theorem mf_X9_rate : MF yX9_rate cX9_rate 2 (some .int) 1 := ⟨List.mem_of_getElem? (i := 625) (by decide +kernel), List.mem_of_getElem? (i := 10) (by decide +kernel), ⟨by decide +kernel, by decide +kernel⟩, by decide +kernel, by decide +kernel⟩
theorem mv_X9_rate : MV yX9_rate := ⟨List.mem_of_getElem? (i := 623) (by decide +kernel), List.mem_of_getElem? (i := 624) (by decide +kernel)⟩
theorem lk_X9_130 : Cond.methodLink RX9 130 yX6_valueBelow ∈ lw_tbl := List.mem_of_getElem? (i := 626) (by decide +kernel)
theorem lk_L_87 : Cond.methodLink RL 87 yL_act ∈ lw_tbl := List.mem_of_getElem? (i := 627) (by decide +kernel)
theorem ms_L_act : Cond.static yL_act ∈ lw_tbl := List.mem_of_getElem? (i := 628) (by decide +kernel)
theorem mf_L_act : MF yL_act cL_act 2 (some .int) 2 := ⟨List.mem_of_getElem? (i := 629) (by decide +kernel), List.mem_of_getElem? (i := 9) (by decide +kernel), ⟨by decide +kernel, by decide +kernel⟩, by decide +kernel, by decide +kernel⟩
theorem lk_L_36 : Cond.methodLink RL 36 yX9_setAmbient ∈ lw_tbl := List.mem_of_getElem? (i := 630) (by decide +kernel)
theorem mf_X9_setAmbient : MF yX9_setAmbient cX9_setAmbient 3 (some .int) 1 := ⟨List.mem_of_getElem? (i := 633) (by decide +kernel), List.mem_of_getElem? (i := 10) (by decide +kernel), ⟨by decide +kernel, by decide +kernel⟩, by decide +kernel, by decide +kernel⟩
theorem mv_X9_setAmbient : MV yX9_setAmbient := ⟨List.mem_of_getElem? (i := 631) (by decide +kernel), List.mem_of_getElem? (i := 632) (by decide +kernel)⟩
theorem lk_L_42 : Cond.methodLink RL 42 yX9_setController ∈ lw_tbl := List.mem_of_getElem? (i := 634) (by decide +kernel)
theorem mf_X9_setController : MF yX9_setController cX9_setController 6 (some .int) 4 := ⟨List.mem_of_getElem? (i := 637) (by decide +kernel), List.mem_of_getElem? (i := 10) (by decide +kernel), ⟨by decide +kernel, by decide +kernel⟩, by decide +kernel, by decide +kernel⟩
theorem mv_X9_setController : MV yX9_setController := ⟨List.mem_of_getElem? (i := 635) (by decide +kernel), List.mem_of_getElem? (i := 636) (by decide +kernel)⟩
theorem lk_L_46 : Cond.methodLink RL 46 yX9_setProbe ∈ lw_tbl := List.mem_of_getElem? (i := 638) (by decide +kernel)
theorem mf_X9_setProbe : MF yX9_setProbe cX9_setProbe 4 (some .int) 2 := ⟨List.mem_of_getElem? (i := 641) (by decide +kernel), List.mem_of_getElem? (i := 10) (by decide +kernel), ⟨by decide +kernel, by decide +kernel⟩, by decide +kernel, by decide +kernel⟩
theorem mv_X9_setProbe : MV yX9_setProbe := ⟨List.mem_of_getElem? (i := 639) (by decide +kernel), List.mem_of_getElem? (i := 640) (by decide +kernel)⟩
theorem lk_L_49 : Cond.methodLink RL 49 yX9_setCrack ∈ lw_tbl := List.mem_of_getElem? (i := 642) (by decide +kernel)
theorem mf_X9_setCrack : MF yX9_setCrack cX9_setCrack 4 (some .int) 2 := ⟨List.mem_of_getElem? (i := 645) (by decide +kernel), List.mem_of_getElem? (i := 10) (by decide +kernel), ⟨by decide +kernel, by decide +kernel⟩, by decide +kernel, by decide +kernel⟩
theorem mv_X9_setCrack : MV yX9_setCrack := ⟨List.mem_of_getElem? (i := 643) (by decide +kernel), List.mem_of_getElem? (i := 644) (by decide +kernel)⟩
theorem lk_L_55 : Cond.methodLink RL 55 yX9_setPoint ∈ lw_tbl := List.mem_of_getElem? (i := 646) (by decide +kernel)
theorem mf_X9_setPoint : MF yX9_setPoint cX9_setPoint 3 (some .int) 2 := ⟨List.mem_of_getElem? (i := 649) (by decide +kernel), List.mem_of_getElem? (i := 10) (by decide +kernel), ⟨by decide +kernel, by decide +kernel⟩, by decide +kernel, by decide +kernel⟩
theorem mv_X9_setPoint : MV yX9_setPoint := ⟨List.mem_of_getElem? (i := 647) (by decide +kernel), List.mem_of_getElem? (i := 648) (by decide +kernel)⟩
theorem lk_L_58 : Cond.methodLink RL 58 yX9_removePoint ∈ lw_tbl := List.mem_of_getElem? (i := 650) (by decide +kernel)
theorem mf_X9_removePoint : MF yX9_removePoint cX9_removePoint 3 (some .int) 1 := ⟨List.mem_of_getElem? (i := 653) (by decide +kernel), List.mem_of_getElem? (i := 10) (by decide +kernel), ⟨by decide +kernel, by decide +kernel⟩, by decide +kernel, by decide +kernel⟩
theorem mv_X9_removePoint : MV yX9_removePoint := ⟨List.mem_of_getElem? (i := 651) (by decide +kernel), List.mem_of_getElem? (i := 652) (by decide +kernel)⟩
theorem kc_L_67 : Cond.constant RL 67 (-50000) ∈ lw_tbl := List.mem_of_getElem? (i := 654) (by decide +kernel)
theorem lk_L_68 : Cond.methodLink RL 68 yX9_drop ∈ lw_tbl := List.mem_of_getElem? (i := 655) (by decide +kernel)
theorem mf_X9_drop : MF yX9_drop cX9_drop 1 (some .int) 0 := ⟨List.mem_of_getElem? (i := 658) (by decide +kernel), List.mem_of_getElem? (i := 10) (by decide +kernel), ⟨by decide +kernel, by decide +kernel⟩, by decide +kernel, by decide +kernel⟩
theorem mv_X9_drop : MV yX9_drop := ⟨List.mem_of_getElem? (i := 656) (by decide +kernel), List.mem_of_getElem? (i := 657) (by decide +kernel)⟩
theorem lk_X9_169 : Cond.methodLink RX9 169 yX2_enter ∈ lw_tbl := List.mem_of_getElem? (i := 659) (by decide +kernel)
theorem mf_X2_enter : MF yX2_enter cX2_enter 3 none 1 := ⟨List.mem_of_getElem? (i := 662) (by decide +kernel), List.mem_of_getElem? (i := 17) (by decide +kernel), ⟨by decide +kernel, by decide +kernel⟩, by decide +kernel, by decide +kernel⟩
theorem mv_X2_enter : MV yX2_enter := ⟨List.mem_of_getElem? (i := 660) (by decide +kernel), List.mem_of_getElem? (i := 661) (by decide +kernel)⟩
theorem ln_X2_30 : Cond.methodLinkNest RX2 30 yX9_put RX9 ∈ lw_tbl := List.mem_of_getElem? (i := 663) (by decide +kernel)
theorem lk_X2_34 : Cond.methodLink RX2 34 yJ9_min_7cf53 ∈ lw_tbl := List.mem_of_getElem? (i := 664) (by decide +kernel)
theorem lk_L_72 : Cond.methodLink RL 72 yX9_takeAway ∈ lw_tbl := List.mem_of_getElem? (i := 665) (by decide +kernel)
theorem mf_X9_takeAway : MF yX9_takeAway cX9_takeAway 1 (some .int) 0 := ⟨List.mem_of_getElem? (i := 668) (by decide +kernel), List.mem_of_getElem? (i := 10) (by decide +kernel), ⟨by decide +kernel, by decide +kernel⟩, by decide +kernel, by decide +kernel⟩
theorem mv_X9_takeAway : MV yX9_takeAway := ⟨List.mem_of_getElem? (i := 666) (by decide +kernel), List.mem_of_getElem? (i := 667) (by decide +kernel)⟩
theorem lk_L_91 : Cond.methodLink RL 91 yL_isRight ∈ lw_tbl := List.mem_of_getElem? (i := 669) (by decide +kernel)
theorem ms_L_isRight : Cond.static yL_isRight ∈ lw_tbl := List.mem_of_getElem? (i := 670) (by decide +kernel)
theorem mf_L_isRight : MF yL_isRight cL_isRight 2 (some .boolean) 1 := ⟨List.mem_of_getElem? (i := 671) (by decide +kernel), List.mem_of_getElem? (i := 9) (by decide +kernel), ⟨by decide +kernel, by decide +kernel⟩, by decide +kernel, by decide +kernel⟩
theorem kc_L_101 : Cond.constant RL 101 (-100002) ∈ lw_tbl := List.mem_of_getElem? (i := 672) (by decide +kernel)
theorem kc_L_108 : Cond.constant RL 108 (-100001) ∈ lw_tbl := List.mem_of_getElem? (i := 673) (by decide +kernel)
theorem lk_copy : Cond.methodLink RX9 240 arraycopyName ∈ lw_tbl ∧ Cond.native arraycopyName ∈ lw_tbl ∧ Cond.static arraycopyName ∈ lw_tbl ∧ Cond.initialized "java/lang/System" ∈ lw_tbl := ⟨lk_X9_240, List.mem_of_getElem? (i := 380) (by decide +kernel), List.mem_of_getElem? (i := 379) (by decide +kernel), List.mem_of_getElem? (i := 21) (by decide +kernel)⟩
