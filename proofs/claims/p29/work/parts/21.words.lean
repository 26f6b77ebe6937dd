theorem ini_X9 : Cond.initialized RX9 ∈ lw_tbl := List.mem_of_getElem? (i := 10) (by decide +kernel)
theorem ini_X7 : Cond.initialized RX7 ∈ lw_tbl := List.mem_of_getElem? (i := 11) (by decide +kernel)
theorem ini_X4 : Cond.initialized RX4 ∈ lw_tbl := List.mem_of_getElem? (i := 12) (by decide +kernel)
theorem ini_X5 : Cond.initialized RX5 ∈ lw_tbl := List.mem_of_getElem? (i := 13) (by decide +kernel)
theorem ini_X0 : Cond.initialized RX0 ∈ lw_tbl := List.mem_of_getElem? (i := 14) (by decide +kernel)
theorem ini_X6 : Cond.initialized RX6 ∈ lw_tbl := List.mem_of_getElem? (i := 15) (by decide +kernel)
theorem ini_J9 : Cond.initialized RJ9 ∈ lw_tbl := List.mem_of_getElem? (i := 16) (by decide +kernel)
theorem ini_X2 : Cond.initialized RX2 ∈ lw_tbl := List.mem_of_getElem? (i := 17) (by decide +kernel)
theorem ini_X1 : Cond.initialized RX1 ∈ lw_tbl := List.mem_of_getElem? (i := 18) (by decide +kernel)
theorem ini_X8 : Cond.initialized RX8 ∈ lw_tbl := List.mem_of_getElem? (i := 19) (by decide +kernel)
theorem ini_X3 : Cond.initialized RX3 ∈ lw_tbl := List.mem_of_getElem? (i := 20) (by decide +kernel)
theorem ini_J10 : Cond.initialized RJ10 ∈ lw_tbl := List.mem_of_getElem? (i := 21) (by decide +kernel)
theorem cl_L_13 : Cond.classLink RL 13 RX9 ∈ lw_tbl := List.mem_of_getElem? (i := 22) (by decide +kernel)
theorem in_X9 : Cond.instantiable RX9 10 ∈ lw_tbl := List.mem_of_getElem? (i := 23) (by decide +kernel)
theorem cl_X9_7 : Cond.classLink RX9 7 RX7 ∈ lw_tbl := List.mem_of_getElem? (i := 30) (by decide +kernel)
theorem in_X7 : Cond.instantiable RX7 4 ∈ lw_tbl := List.mem_of_getElem? (i := 31) (by decide +kernel)
theorem cl_X7_9 : Cond.classLink RX7 9 RX4 ∈ lw_tbl := List.mem_of_getElem? (i := 36) (by decide +kernel)
theorem in_X4 : Cond.instantiable RX4 8 ∈ lw_tbl := List.mem_of_getElem? (i := 37) (by decide +kernel)
theorem cl_X4_9 : Cond.classLink RX4 9 RX5 ∈ lw_tbl := List.mem_of_getElem? (i := 42) (by decide +kernel)
theorem in_X5 : Cond.instantiable RX5 10 ∈ lw_tbl := List.mem_of_getElem? (i := 43) (by decide +kernel)
theorem cl_X4_18 : Cond.classLink RX4 18 RX0 ∈ lw_tbl := List.mem_of_getElem? (i := 98) (by decide +kernel)
theorem in_X0 : Cond.instantiable RX0 9 ∈ lw_tbl := List.mem_of_getElem? (i := 99) (by decide +kernel)
theorem cl_X7_18 : Cond.classLink RX7 18 RX6 ∈ lw_tbl := List.mem_of_getElem? (i := 179) (by decide +kernel)
theorem in_X6 : Cond.instantiable RX6 3 ∈ lw_tbl := List.mem_of_getElem? (i := 180) (by decide +kernel)
theorem cl_X7_30 : Cond.classLink RX7 30 RX2 ∈ lw_tbl := List.mem_of_getElem? (i := 201) (by decide +kernel)
theorem in_X2 : Cond.instantiable RX2 3 ∈ lw_tbl := List.mem_of_getElem? (i := 202) (by decide +kernel)
theorem cl_X9_42 : Cond.classLink RX9 42 RX1 ∈ lw_tbl := List.mem_of_getElem? (i := 235) (by decide +kernel)
theorem in_X1 : Cond.instantiable RX1 3 ∈ lw_tbl := List.mem_of_getElem? (i := 236) (by decide +kernel)
theorem cl_X1_9 : Cond.classLink RX1 9 RX7 ∈ lw_tbl := List.mem_of_getElem? (i := 241) (by decide +kernel)
theorem cl_X9_49 : Cond.classLink RX9 49 RX8 ∈ lw_tbl := List.mem_of_getElem? (i := 255) (by decide +kernel)
theorem in_X8 : Cond.instantiable RX8 2 ∈ lw_tbl := List.mem_of_getElem? (i := 256) (by decide +kernel)
theorem cl_X9_56 : Cond.classLink RX9 56 RX3 ∈ lw_tbl := List.mem_of_getElem? (i := 270) (by decide +kernel)
theorem in_X3 : Cond.instantiable RX3 2 ∈ lw_tbl := List.mem_of_getElem? (i := 271) (by decide +kernel)
theorem cl_X3_9 : Cond.classLink RX3 9 RX6 ∈ lw_tbl := List.mem_of_getElem? (i := 276) (by decide +kernel)
theorem cl_X9_22 : Cond.classLink RX9 22 RX4 ∈ lw_tbl := List.mem_of_getElem? (i := 286) (by decide +kernel)
theorem oi_i : Cond.instanceMethod objectInit ∈ lw_tbl := List.mem_of_getElem? (i := 28) (by decide +kernel)
theorem oi_c : Cond.code objectInit ⟨#[0xb1]⟩ 1 none ∈ lw_tbl := List.mem_of_getElem? (i := 29) (by decide +kernel)
theorem mx_l : Cond.methodLink RX6 13 Lib.Math.max.name ∈ lw_tbl := List.mem_of_getElem? (i := 185) (by decide +kernel)
theorem mx_s : Cond.static Lib.Math.max.name ∈ lw_tbl := List.mem_of_getElem? (i := 186) (by decide +kernel)
theorem mx_i : Cond.initialized "java/lang/Math" ∈ lw_tbl := List.mem_of_getElem? (i := 16) (by decide +kernel)
theorem mx_c : Cond.code Lib.Math.max.name Lib.Math.max.code 2 (some .int) ∈ lw_tbl := List.mem_of_getElem? (i := 187) (by decide +kernel)
theorem df_X0 : ∀ j, j < 9 → defaultValue (tyX0 j) = vp_V [.int 0, .int 0, .int 0, .int 0, .int 0, .null, .int 0, .int 0, .int 0] j := fun j hj => by rcases (show j = 0 ∨ j = 1 ∨ j = 2 ∨ j = 3 ∨ j = 4 ∨ j = 5 ∨ j = 6 ∨ j = 7 ∨ j = 8 by omega) with rfl | rfl | rfl | rfl | rfl | rfl | rfl | rfl | rfl <;> rfl
theorem df_X1 : ∀ j, j < 3 → defaultValue (tyX1 j) = vp_V [.null, .int 0, .int 0] j := fun j hj => by rcases (show j = 0 ∨ j = 1 ∨ j = 2 by omega) with rfl | rfl | rfl <;> rfl
theorem df_X2 : ∀ j, j < 3 → defaultValue (tyX2 j) = vp_V [.null, .int 0, .int 0] j := fun j hj => by rcases (show j = 0 ∨ j = 1 ∨ j = 2 by omega) with rfl | rfl | rfl <;> rfl
theorem df_X3 : ∀ j, j < 2 → defaultValue (tyX3 j) = vp_V [.null, .int 0] j := fun j hj => by rcases (show j = 0 ∨ j = 1 by omega) with rfl | rfl <;> rfl
theorem df_X4 : ∀ j, j < 8 → defaultValue (tyX4 j) = vp_V [.null, .null, .int 0, .int 0, .int 0, .int 0, .int 0, .int 0] j := fun j hj => by rcases (show j = 0 ∨ j = 1 ∨ j = 2 ∨ j = 3 ∨ j = 4 ∨ j = 5 ∨ j = 6 ∨ j = 7 by omega) with rfl | rfl | rfl | rfl | rfl | rfl | rfl | rfl <;> rfl
theorem df_X5 : ∀ j, j < 10 → defaultValue (tyX5 j) = vp_V [.int 0, .int 0, .int 0, .int 0, .int 0, .int 0, .int 0, .int 0, .int 0, .int 0] j := fun j hj => by rcases (show j = 0 ∨ j = 1 ∨ j = 2 ∨ j = 3 ∨ j = 4 ∨ j = 5 ∨ j = 6 ∨ j = 7 ∨ j = 8 ∨ j = 9 by omega) with rfl | rfl | rfl | rfl | rfl | rfl | rfl | rfl | rfl | rfl <;> rfl
theorem df_X6 : ∀ j, j < 3 → defaultValue (tyX6 j) = vp_V [.null, .null, .int 0] j := fun j hj => by rcases (show j = 0 ∨ j = 1 ∨ j = 2 by omega) with rfl | rfl | rfl <;> rfl
theorem df_X7 : ∀ j, j < 4 → defaultValue (tyX7 j) = vp_V [.null, .null, .null, .null] j := fun j hj => by rcases (show j = 0 ∨ j = 1 ∨ j = 2 ∨ j = 3 by omega) with rfl | rfl | rfl | rfl <;> rfl
theorem df_X8 : ∀ j, j < 2 → defaultValue (tyX8 j) = vp_V [.null, .int 0] j := fun j hj => by rcases (show j = 0 ∨ j = 1 by omega) with rfl | rfl <;> rfl
theorem df_X9 : ∀ j, j < 10 → defaultValue (tyX9 j) = vp_V [.null, .null, .null, .null, .null, .null, .null, .null, .null, .null] j := fun j hj => by rcases (show j = 0 ∨ j = 1 ∨ j = 2 ∨ j = 3 ∨ j = 4 ∨ j = 5 ∨ j = 6 ∨ j = 7 ∨ j = 8 ∨ j = 9 by omega) with rfl | rfl | rfl | rfl | rfl | rfl | rfl | rfl | rfl | rfl <;> rfl
/-- a roaster's row as it is made -/
def rINI : Nat → Int32 := fun p => ([0, 0, 250, 250, 250, 4, 0, 0, 10, 0, 50, 5, 50, 0, 1960, 30, 0, 0, 0, 0, 0, 0, 0, -100009, -100009, 0] : List Int32).getD p 0
theorem ring_eq : (fun k => rINI (26 + 1 * k)) = fun _ => 0 := funext fun k => by
  unfold rINI
  rw [List.getD_eq_getElem?_getD, List.getElem?_eq_none (by show 26 ≤ 26 + 1 * k; omega)]
  rfl
def wX5 (a : Nat) (_ : Nat → Nat) : va_W := [(a, .inr (5, [.int 250, .int 0, .int 50, .int 5, .int 50, .int 4, .int 0, .int 1960, .int 30, .int 10]))]
def wX0 (cI : ClassId) (a : Nat) (u : Nat → Nat) : va_W := [(a, .inr (0, [.int 0, .int 0, .int 0, .int 0, .int 0, .ref (u 0), .int (-100009), .int (-100009), .int 0]))] ++ [(u 0, .inl (cI, 6, .inl (fun k => rINI (26 + 1 * k))))]
def wX4 (cI : ClassId) (a : Nat) (u : Nat → Nat) : va_W := ([(a, .inr (4, [.ref (u 0), .ref (u 1), .int 0, .int 0, .int 250, .int 250, .int 0, .int 0]))] ++ wX5 (u 0) (fun _ => 0)) ++ wX0 cI (u 1) (fun k => u (2 + k))
def wX6 (cI : ClassId) (n : Nat) (a : Nat) (u : Nat → Nat) : va_W := ([(a, .inr (6, [.ref (u 0), .ref (u 1), .int 0]))] ++ [(u 0, .inl (cI, n, .inl (fun _ => 0)))]) ++ [(u 1, .inl (cI, n, .inl (fun _ => 0)))]
def wX2 (cI : ClassId) (a : Nat) (u : Nat → Nat) : va_W := [(a, .inr (2, [.ref (u 0), .int 0, .int 0]))] ++ [(u 0, .inl (cI, 48, .inl (fun _ => 0)))]
def wX7 (cI : ClassId) (a : Nat) (u : Nat → Nat) : va_W := ((([(a, .inr (7, [.ref (u 0), .ref (u 4), .ref (u 7), .ref (u 10)]))] ++ wX4 cI (u 0) (fun k => u (1 + k))) ++ wX6 cI 8 (u 4) (fun k => u (5 + k))) ++ wX6 cI 6 (u 7) (fun k => u (8 + k))) ++ wX2 cI (u 10) (fun k => u (11 + k))
def wX8 (cI : ClassId) (a : Nat) (u : Nat → Nat) : va_W := [(a, .inr (8, [.ref (u 0), .int 0]))] ++ [(u 0, .inl (cI, 100, .inl (fun _ => 0)))]
def wX3 (cI : ClassId) (a : Nat) (u : Nat → Nat) : va_W := [(a, .inr (3, [.ref (u 0), .int (-1)]))] ++ wX6 cI 8 (u 0) (fun k => u (1 + k))
def fX1 (u : Nat → Nat) : Nat → Option Nat := va_up (va_up (va_up (va_up (va_up (fun _ => none) 0 (some (u 1))) 1 (some (u 14))) 2 (some (u 27))) 3 (some (u 40))) 4 (some (u 53))
def wX1 (cI cS : ClassId) (a : Nat) (u : Nat → Nat) : va_W := ((((([(a, .inr (1, [.ref (u 0), .int 0, .int 0]))] ++ [(u 0, .inl (cS, 5, .inr (.inr (.inr (.inr (fX1 u))))))]) ++ wX7 cI (u 1) (fun k => u (2 + k))) ++ wX7 cI (u 14) (fun k => u (15 + k))) ++ wX7 cI (u 27) (fun k => u (28 + k))) ++ wX7 cI (u 40) (fun k => u (41 + k))) ++ wX7 cI (u 53) (fun k => u (54 + k))
