/-- rounded down -/
def S_down (a : Int32) (b : Int32) : Int32 := if 0 ≤ (a - a / b * b) then (a / b) else ((a / b) - 1)
/-! division rounded down, in both classes' words -/
theorem dv_un {A B z : Int} (hB : 0 < B) (h1 : z * B ≤ A) (h2 : A < z * B + B) : A / B = z := by
  have a1 := (Int.le_ediv_iff_mul_le hB).mpr h1
  have a2 : A / B < z + 1 := (Int.ediv_lt_iff_lt_mul hB).mpr (by rw [Int.add_mul, Int.one_mul]; exact h2)
  omega
theorem dv_t (A : Int) {B : Int} (hB : 0 < B) : A.tdiv B * B + A.tmod B = A ∧ A.tmod B < B ∧ -B < A.tmod B ∧ (0 ≤ A → 0 ≤ A.tmod B) ∧ (A ≤ 0 → A.tmod B ≤ 0) := by
  refine ⟨by rw [Int.mul_comm]; exact Int.mul_tdiv_add_tmod A B, Int.tmod_lt_of_pos A hB, ?_, Int.tmod_nonneg B, fun h => ?_⟩
  · have := Int.tmod_lt_of_pos (-A) hB
    rw [Int.neg_tmod] at this
    omega
  · have := Int.tmod_nonneg (a := -A) B (by omega)
    rw [Int.neg_tmod] at this
    omega
theorem dv_q (A : Int) {B : Int} (hB : 0 < B) : (0 ≤ A → 0 ≤ A.tdiv B ∧ A.tdiv B ≤ A) ∧ (A ≤ 0 → A ≤ A.tdiv B ∧ A.tdiv B ≤ 0) := by
  obtain ⟨h1, h2, h3, h4, h5⟩ := dv_t A hB
  have key : ∀ x : Int, 0 ≤ x → x ≤ x * B := fun x hx => by
    have : 0 ≤ x * (B - 1) := Int.mul_nonneg hx (by omega)
    rw [Int.mul_sub, Int.mul_one] at this
    omega
  constructor
  · intro h
    have h4 := h4 h
    have q0 : 0 ≤ A.tdiv B := by
      rcases Int.lt_or_le (A.tdiv B) 0 with q | q
      · have := key (-(A.tdiv B) - 1) (by omega)
        rw [Int.sub_mul, Int.neg_mul, Int.one_mul] at this
        omega
      · exact q
    have := key _ q0
    exact ⟨q0, by omega⟩
  · intro h
    have h5 := h5 h
    have q0 : A.tdiv B ≤ 0 := by
      rcases Int.lt_or_le 0 (A.tdiv B) with q | q
      · have := key (A.tdiv B - 1) (by omega)
        rw [Int.sub_mul, Int.one_mul] at this
        omega
      · exact q
    have := key (-(A.tdiv B)) (by omega)
    rw [Int.neg_mul] at this
    exact ⟨by omega, q0⟩
theorem dv_floor (A : Int) {B : Int} (hB : 0 < B) : A / B = (if A.tmod B < 0 then A.tdiv B - 1 else A.tdiv B) := by
  obtain ⟨h1, h2, h3, h4, h5⟩ := dv_t A hB
  split
  · exact dv_un hB (by rw [Int.sub_mul, Int.one_mul]; omega) (by rw [Int.sub_mul, Int.one_mul]; omega)
  · exact dv_un hB (by omega) (by omega)
theorem dv_bd (A : Int) {B : Int} (hB : 0 < B) : (0 ≤ A → 0 ≤ A / B ∧ A / B ≤ A) ∧ (A ≤ 0 → A ≤ A / B ∧ A / B ≤ 0) := by
  obtain ⟨h1, h2, h3, h4, h5⟩ := dv_t A hB
  obtain ⟨q1, q2⟩ := dv_q A hB
  have hf := dv_floor A hB
  constructor
  · intro h
    have := h4 h
    rw [hf, if_neg (by omega)]
    exact q1 h
  · intro h
    have hz := q2 h
    rw [hf]
    split
    · rename_i hm
      refine ⟨?_, by omega⟩
      have a1 : A ≤ A / B := (Int.le_ediv_iff_mul_le hB).mpr (by
        have : 0 ≤ (-A) * (B - 1) := Int.mul_nonneg (by omega) (by omega)
        rw [Int.mul_sub, Int.mul_one, Int.neg_mul] at this
        omega)
      rw [hf, if_pos hm] at a1
      exact a1
    · exact hz
theorem xs32 {a b : Int32} (hb : 0 < b.toInt) : 0 ≤ a ^^^ b ↔ 0 ≤ a.toInt := by
  have key : ∀ x : Int32, 0 ≤ x ↔ x.toBitVec.msb = false := fun x => by
    rw [Int32.le_iff_toInt_le, BitVec.msb_eq_toInt]
    show (0 : Int) ≤ x.toInt ↔ decide (x.toInt < 0) = false
    rw [decide_eq_false_iff_not]
    omega
  rw [key, Int32.toBitVec_xor, BitVec.msb_xor]
  have h1 : b.toBitVec.msb = false := (key b).mp (Int32.le_iff_toInt_le.mpr (by show (0 : Int) ≤ b.toInt; omega))
  rw [h1, Bool.xor_false, ← key a, Int32.le_iff_toInt_le]
  exact Iff.rfl
theorem dq32 {a b : Int32} (hb : 0 < b.toInt) : (a / b).toInt = a.toInt.tdiv b.toInt := Int32.toInt_div_of_ne_right a b (fun z => by rw [z] at hb; exact absurd hb (by decide))
theorem dm32 {a b : Int32} (hb : 0 < b.toInt) : (a / b * b).toInt = a.toInt.tdiv b.toInt * b.toInt := by
  rw [Int32.toInt_mul, dq32 hb]
  obtain ⟨h1, h2, h3, h4, h5⟩ := dv_t a.toInt hb
  have r1 := Int32.le_toInt a
  have r2 := Int32.toInt_lt a
  rcases Int.le_total 0 a.toInt with h | h
  · have := h4 h
    have hq := ((dv_q a.toInt hb).1 h).1
    have : 0 ≤ a.toInt.tdiv b.toInt * b.toInt := Int.mul_nonneg hq (by omega)
    exact Int.bmod_eq_of_le (by omega) (by omega)
  · have := h5 h
    exact Int.bmod_eq_of_le (by omega) (by
      have hq := ((dv_q a.toInt hb).2 h).2
      have : a.toInt.tdiv b.toInt * b.toInt ≤ 0 := Int.mul_nonpos_of_nonpos_of_nonneg hq (by omega)
      omega)
theorem dr32 {a b : Int32} (hb : 0 < b.toInt) : (a - a / b * b).toInt = a.toInt.tmod b.toInt := by
  rw [Int32.toInt_sub, dm32 hb]
  obtain ⟨h1, h2, h3, h4, h5⟩ := dv_t a.toInt hb
  have r1 := Int32.le_toInt b
  have r2 := Int32.toInt_lt b
  rw [show a.toInt - a.toInt.tdiv b.toInt * b.toInt = a.toInt.tmod b.toInt by omega]
  exact Int.bmod_eq_of_le (by omega) (by omega)
theorem ds32 {a b : Int32} (hb : 0 < b.toInt) (hm : a.toInt.tmod b.toInt < 0) : (a / b - 1).toInt = a.toInt / b.toInt := by
  have hf := dv_floor a.toInt hb
  rw [if_pos hm] at hf
  obtain ⟨h1, h2, h3, h4, h5⟩ := dv_t a.toInt hb
  have r1 := Int32.le_toInt a
  have r2 := Int32.toInt_lt a
  have hn : a.toInt ≤ 0 := by
    rcases Int.le_total 0 a.toInt with h | h
    · have := h4 h
      omega
    · exact h
  have hz := (dv_bd a.toInt hb).2 hn
  rw [Int32.toInt_sub, dq32 hb, show (1 : Int32).toInt = 1 from rfl, ← hf]
  exact Int.bmod_eq_of_le (by omega) (by omega)
theorem xs64 {a b : Int64} (hb : 0 < b.toInt) : 0 ≤ a ^^^ b ↔ 0 ≤ a.toInt := by
  have key : ∀ x : Int64, 0 ≤ x ↔ x.toBitVec.msb = false := fun x => by
    rw [Int64.le_iff_toInt_le, BitVec.msb_eq_toInt]
    show (0 : Int) ≤ x.toInt ↔ decide (x.toInt < 0) = false
    rw [decide_eq_false_iff_not]
    omega
  rw [key, Int64.toBitVec_xor, BitVec.msb_xor]
  have h1 : b.toBitVec.msb = false := (key b).mp (Int64.le_iff_toInt_le.mpr (by show (0 : Int) ≤ b.toInt; omega))
  rw [h1, Bool.xor_false, ← key a, Int64.le_iff_toInt_le]
  exact Iff.rfl
theorem dq64 {a b : Int64} (hb : 0 < b.toInt) : (a / b).toInt = a.toInt.tdiv b.toInt := Int64.toInt_div_of_ne_right a b (fun z => by rw [z] at hb; exact absurd hb (by decide))
theorem dm64 {a b : Int64} (hb : 0 < b.toInt) : (a / b * b).toInt = a.toInt.tdiv b.toInt * b.toInt := by
  rw [Int64.toInt_mul, dq64 hb]
  obtain ⟨h1, h2, h3, h4, h5⟩ := dv_t a.toInt hb
  have r1 := Int64.le_toInt a
  have r2 := Int64.toInt_lt a
  rcases Int.le_total 0 a.toInt with h | h
  · have := h4 h
    have hq := ((dv_q a.toInt hb).1 h).1
    have : 0 ≤ a.toInt.tdiv b.toInt * b.toInt := Int.mul_nonneg hq (by omega)
    exact Int.bmod_eq_of_le (by omega) (by omega)
  · have := h5 h
    exact Int.bmod_eq_of_le (by omega) (by
      have hq := ((dv_q a.toInt hb).2 h).2
      have : a.toInt.tdiv b.toInt * b.toInt ≤ 0 := Int.mul_nonpos_of_nonpos_of_nonneg hq (by omega)
      omega)
theorem dr64 {a b : Int64} (hb : 0 < b.toInt) : (a - a / b * b).toInt = a.toInt.tmod b.toInt := by
  rw [Int64.toInt_sub, dm64 hb]
  obtain ⟨h1, h2, h3, h4, h5⟩ := dv_t a.toInt hb
  have r1 := Int64.le_toInt b
  have r2 := Int64.toInt_lt b
  rw [show a.toInt - a.toInt.tdiv b.toInt * b.toInt = a.toInt.tmod b.toInt by omega]
  exact Int.bmod_eq_of_le (by omega) (by omega)
theorem ds64 {a b : Int64} (hb : 0 < b.toInt) (hm : a.toInt.tmod b.toInt < 0) : (a / b - 1).toInt = a.toInt / b.toInt := by
  have hf := dv_floor a.toInt hb
  rw [if_pos hm] at hf
  obtain ⟨h1, h2, h3, h4, h5⟩ := dv_t a.toInt hb
  have r1 := Int64.le_toInt a
  have r2 := Int64.toInt_lt a
  have hn : a.toInt ≤ 0 := by
    rcases Int.le_total 0 a.toInt with h | h
    · have := h4 h
      omega
    · exact h
  have hz := (dv_bd a.toInt hb).2 hn
  rw [Int64.toInt_sub, dq64 hb, show (1 : Int64).toInt = 1 from rfl, ← hf]
  exact Int.bmod_eq_of_le (by omega) (by omega)
theorem fd32 {a b : Int32} (hb : 0 < b.toInt) : (S_J9_floorDiv_7cf53 a b).toInt = a.toInt / b.toInt := by
  obtain ⟨h1, h2, h3, h4, h5⟩ := dv_t a.toInt hb
  have hf := dv_floor a.toInt hb
  unfold S_J9_floorDiv_7cf53
  by_cases c1 : 0 ≤ a ^^^ b
  · rw [if_pos c1, dq32 hb, hf, if_neg (by have := h4 ((xs32 hb).mp c1); omega)]
  · rw [if_neg c1]
    by_cases c2 : a / b * b = a
    · rw [if_pos c2, dq32 hb, hf, if_neg]
      have := congrArg Int32.toInt c2
      rw [dm32 hb] at this
      omega
    · rw [if_neg c2]
      have hn : a.toInt ≤ 0 := by
        rcases Int.le_total 0 a.toInt with h | h
        · exact absurd ((xs32 hb).mpr h) c1
        · exact h
      refine ds32 hb ?_
      have := h5 hn
      rcases Int.lt_or_le (a.toInt.tmod b.toInt) 0 with q | q
      · exact q
      · exact absurd (Int32.toInt_inj.mp (by rw [dm32 hb]; omega)) c2
theorem dn32 {a b : Int32} (hb : 0 < b.toInt) : (S_down a b).toInt = a.toInt / b.toInt := by
  obtain ⟨h1, h2, h3, h4, h5⟩ := dv_t a.toInt hb
  have hf := dv_floor a.toInt hb
  unfold S_down
  by_cases c1 : 0 ≤ a - a / b * b
  · have c2 := Int32.le_iff_toInt_le.mp c1
    rw [dr32 hb] at c2
    have c3 : (0 : Int) ≤ a.toInt.tmod b.toInt := c2
    show (if 0 ≤ a - a / b * b then a / b else a / b - 1).toInt = _
    rw [if_pos c1, dq32 hb, hf, if_neg (by omega)]
  · show (if 0 ≤ a - a / b * b then a / b else a / b - 1).toInt = _
    rw [if_neg c1]
    refine ds32 hb ?_
    have c2 := Int32.not_le.mp c1
    rw [Int32.lt_iff_toInt_lt, dr32 hb] at c2
    exact c2
/-- class and reference round down alike -/
theorem fd_dn {a b : Int32} (hb : 0 < b.toInt) : S_J9_floorDiv_7cf53 a b = S_down a b := Int32.toInt_inj.mp (by rw [fd32 hb, dn32 hb])
theorem fm32 {a b : Int32} (hb : 0 < b.toInt) : (S_J9_floorMod_7cf53 a b).toInt = a.toInt % b.toInt := by
  obtain ⟨h1, h2, h3, h4, h5⟩ := dv_t a.toInt hb
  have hf := dv_floor a.toInt hb
  have he := Int.mul_ediv_add_emod a.toInt b.toInt
  rw [Int.mul_comm] at he
  have r1 := Int32.le_toInt b
  have r2 := Int32.toInt_lt b
  unfold S_J9_floorMod_7cf53
  by_cases c1 : 0 ≤ a ^^^ b
  · rw [if_pos c1, dr32 hb]
    rw [if_neg (by have := h4 ((xs32 hb).mp c1); omega)] at hf
    rw [hf] at he
    omega
  · rw [if_neg c1]
    by_cases c2 : a - a / b * b = 0
    · rw [if_pos c2, dr32 hb]
      have := congrArg Int32.toInt c2
      rw [dr32 hb] at this
      have h0 : a.toInt.tmod b.toInt = 0 := this
      rw [if_neg (by omega)] at hf
      rw [hf] at he
      omega
    · rw [if_neg c2]
      have hn : a.toInt ≤ 0 := by
        rcases Int.le_total 0 a.toInt with h | h
        · exact absurd ((xs32 hb).mpr h) c1
        · exact h
      have hl : a.toInt.tmod b.toInt < 0 := by
        have := h5 hn
        rcases Int.lt_or_le (a.toInt.tmod b.toInt) 0 with q | q
        · exact q
        · exact absurd (Int32.toInt_inj.mp (by rw [dr32 hb]; show a.toInt.tmod b.toInt = 0; omega)) c2
      rw [if_pos hl, ] at hf
      rw [hf, Int.sub_mul, Int.one_mul] at he
      rw [Int32.toInt_add, dr32 hb]
      rw [Int.bmod_eq_of_le (by omega) (by omega)]
      omega
theorem fm_in {a b : Int32} (hb : 0 < b.toInt) : 0 ≤ (S_J9_floorMod_7cf53 a b).toInt ∧ (S_J9_floorMod_7cf53 a b).toInt < b.toInt := by
  rw [fm32 hb]
  exact ⟨Int.emod_nonneg _ (by omega), Int.emod_lt_of_pos _ hb⟩
theorem fmF5 (a : Int32) : ¬ S_J9_floorMod_7cf53 a 5 < 0 ∧ ¬ 5 ≤ S_J9_floorMod_7cf53 a 5 := by
  obtain ⟨h1, h2⟩ := fm_in (a := a) (b := 5) (by decide)
  have e5 : (5 : Int32).toInt = 5 := rfl
  have e0 : (0 : Int32).toInt = 0 := rfl
  rw [Int32.lt_iff_toInt_lt, Int32.le_iff_toInt_le]
  omega
theorem clN {x : Int32} (h : 0 ≤ x.toInt) : (x.toNatClampNeg : Int) = x.toInt := by
  show ((x.toInt.toNat : Nat) : Int) = x.toInt
  omega
theorem fmN5 (a : Int32) : (S_J9_floorMod_7cf53 a 5).toNatClampNeg < 5 := by
  obtain ⟨h1, h2⟩ := fm_in (a := a) (b := 5) (by decide)
  have e5 : (5 : Int32).toInt = 5 := rfl
  have := clN h1
  omega
theorem lgc_le {x : Int64} : 0 ≤ lg_cmp x 0 ↔ 0 ≤ x := by
  unfold lg_cmp
  by_cases h1 : x > 0
  · rw [if_pos h1]
    exact ⟨fun _ => Int64.le_of_lt h1, fun _ => by decide⟩
  · rw [if_neg h1]
    by_cases h2 : x = 0
    · rw [if_pos h2]
      exact ⟨fun _ => by rw [h2]; exact Int64.le_refl _, fun _ => by decide⟩
    · rw [if_neg h2]
      refine ⟨fun h => absurd h (by decide), fun h => absurd ?_ h2⟩
      exact Int64.le_antisymm (Int64.not_lt.mp h1) h
theorem lgc_eq {x y : Int64} : lg_cmp x y = 0 ↔ x = y := by
  unfold lg_cmp
  by_cases h1 : x > y
  · rw [if_pos h1]
    exact ⟨fun h => absurd h (by decide), fun h => by rw [h] at h1; exact absurd h1 (Int64.lt_irrefl)⟩
  · rw [if_neg h1]
    by_cases h2 : x = y
    · rw [if_pos h2]
      exact ⟨fun _ => h2, fun _ => rfl⟩
    · rw [if_neg h2]
      exact ⟨fun h => absurd h (by decide), fun h => absurd h h2⟩
theorem lgc_pos {x : Int64} : lg_cmp x 0 ≤ 0 ↔ ¬ 0 < x := by
  unfold lg_cmp
  by_cases h1 : x > 0
  · rw [if_pos h1]
    exact ⟨fun h => absurd h (by decide), fun h => absurd h1 h⟩
  · rw [if_neg h1]
    refine ⟨fun _ => h1, fun _ => ?_⟩
    split <;> decide
theorem fd64 {a b : Int64} (hb : 0 < b.toInt) : (S_J9_floorDiv_f86c9 a b).toInt = a.toInt / b.toInt := by
  obtain ⟨h1, h2, h3, h4, h5⟩ := dv_t a.toInt hb
  have hf := dv_floor a.toInt hb
  unfold S_J9_floorDiv_f86c9
  by_cases c1 : 0 ≤ a ^^^ b
  · rw [if_pos (lgc_le.mpr c1), dq64 hb, hf, if_neg (by have := h4 ((xs64 hb).mp c1); omega)]
  · rw [if_neg (fun z => c1 (lgc_le.mp z))]
    by_cases c2 : a / b * b = a
    · rw [if_pos (lgc_eq.mpr c2), dq64 hb, hf, if_neg]
      have := congrArg Int64.toInt c2
      rw [dm64 hb] at this
      omega
    · rw [if_neg (fun z => c2 (lgc_eq.mp z))]
      have hn : a.toInt ≤ 0 := by
        rcases Int.le_total 0 a.toInt with h | h
        · exact absurd ((xs64 hb).mpr h) c1
        · exact h
      refine ds64 hb ?_
      have := h5 hn
      rcases Int.lt_or_le (a.toInt.tmod b.toInt) 0 with q | q
      · exact q
      · exact absurd (Int64.toInt_inj.mp (by rw [dm64 hb]; omega)) c2
theorem quo64 {a b : Int64} (hb : 0 < b.toInt) : (S_X9_quotient a b).toInt = a.toInt / b.toInt := by
  show (if lg_cmp b 0 ≤ 0 then (0 : Int64) else S_J9_floorDiv_f86c9 a b).toInt = _
  rw [if_neg (fun z => lgc_pos.mp z (Int64.lt_iff_toInt_lt.mpr hb)), fd64 hb]
/-- the class's quotient of two ints, told as an int -/
theorem quo32 {a b : Int32} (hb : 0 < b.toInt) : Int64.toInt32 (S_X9_quotient (Int32.toInt64 a) (Int32.toInt64 b)) = S_down a b := by
  apply Int32.toInt_inj.mp
  rw [Int64.toInt_toInt32, quo64 (by rw [Int32.toInt_toInt64]; exact hb), Int32.toInt_toInt64, Int32.toInt_toInt64, dn32 hb]
  have r1 := Int32.le_toInt a
  have r2 := Int32.toInt_lt a
  rcases Int.le_total 0 a.toInt with h | h
  · have := (dv_bd a.toInt hb).1 h
    exact Int.bmod_eq_of_le (by omega) (by omega)
  · have := (dv_bd a.toInt hb).2 h
    exact Int.bmod_eq_of_le (by omega) (by omega)
