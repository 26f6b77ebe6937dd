theorem am1 {a : Int32} (h : -2147483648 < a.toInt) : (a + (-1)).toInt = a.toInt - 1 := by
  have := Int32.toInt_lt a
  rw [ta (b := -1) (by show -2147483648 ≤ a.toInt + (-1); omega) (by show a.toInt + (-1) < 2147483648; omega)]
  rfl
theorem am2 {a : Int32} (h : -2147483646 ≤ a.toInt) : (a - 2).toInt = a.toInt - 2 := by
  have := Int32.toInt_lt a
  rw [tsu (b := 2) (by show -2147483648 ≤ a.toInt - 2; omega) (by show a.toInt - 2 < 2147483648; omega)]
  rfl
theorem am_all {a : Int32} (h : 34 ≤ a.toInt) : ∃ A : Nat, a.toInt = A ∧ Int32.toNatClampNeg a = A ∧ (a + (-1)).toInt = (A : Int) - 1 ∧ Int32.toNatClampNeg (a - 2) = A - 2 := by
  have e1 := am1 (a := a) (by omega)
  have n1 := clN (x := a) (by omega)
  refine ⟨Int32.toNatClampNeg a, n1.symm, rfl, by rw [e1, n1], ?_⟩
  clear e1
  have e2 := am2 (a := a) (by omega)
  have n2 := clN (x := a - 2) (by rw [e2]; omega)
  rw [e2] at n2
  omega
theorem ins_ix {li P : Int32} {L p : Nat} (hl : 0 ≤ li.toInt ∧ li.toInt ≤ 50) (eL : li.toInt = L) (hp : P.toInt = p) (hp8 : p ≤ 8) : ((li + 2 * P).toInt = L + 2 * (p : Int) ∧ (li + 2 * P + 1).toInt = L + 2 * (p : Int) + 1) ∧ Int32.toNatClampNeg (li + 2 * P) = L + 2 * p ∧ Int32.toNatClampNeg (li + 2 * P + 1) = L + 2 * p + 1 := by
  obtain ⟨e1, e2⟩ := e33 hl (p := P) ⟨by omega, by omega⟩
  have n1 := clN (x := li + 2 * P) (by omega)
  have n2 := clN (x := li + 2 * P + 1) (by omega)
  refine ⟨⟨by omega, by omega⟩, by omega, by omega⟩
/-- what insert does, place by place -/
theorem L_ins_P {σ : Nat → Int32} {ke va : Int32} {p : Nat} (hp : (S_X10_place σ 33 (σ 32) ke).toInt = p) (hp8 : p ≤ 8) : ∀ (fu : Nat) (aa : Int32) (σ1 : Nat → Int32), aa.toInt ≤ 111 → 33 + 2 * (p : Int) + 1 ≤ aa.toInt → (aa.toInt - (33 + 2 * (p : Int) + 1)).toNat < fu → ∀ j : Nat, L_X10_insert_P_45 fu σ ke va aa σ1 j = if j = 33 + 2 * p + 1 then va else if j = 33 + 2 * p then ke else if j = 32 then σ1 32 + 1 else if 33 + 2 * p + 1 < j ∧ (j : Int) ≤ aa.toInt then σ1 (j - 2) else σ1 j := by
  intro fu
  induction fu with
  | zero => intro _ _ _ _ h; exact absurd h (Nat.not_lt_zero _)
  | succ fu ih =>
    intro aa σ1 ha hb2 hm j
    unfold L_X10_insert_P_45
    generalize S_X10_place σ 33 (σ 32) ke = P at hp ⊢
    obtain ⟨⟨e1, e2⟩, n1, n2⟩ := ins_ix (li := 33) (L := 33) (by decide) rfl hp hp8
    by_cases c : aa ≤ 33 + 2 * P + 1
    · rw [if_pos c]
      have c2 := Int32.le_iff_toInt_le.mp c
      rw [n1, n2]
      show va_up (va_up (va_up σ1 32 (σ1 32 + 1)) (33 + 2 * p) ke) (33 + 2 * p + 1) va j = _
      simp only [va_up]
      by_cases h1 : j = 33 + 2 * p + 1
      · rw [if_pos h1, if_pos h1]
      · rw [if_neg h1, if_neg h1]
        by_cases h2 : j = 33 + 2 * p
        · rw [if_pos h2, if_pos h2]
        · rw [if_neg h2, if_neg h2]
          by_cases h3 : j = 32
          · rw [if_pos h3, if_pos h3]
          · rw [if_neg h3, if_neg h3, if_neg (by omega)]
    · rw [if_neg c]
      have c2 := nle c
      have ha0 : 34 ≤ aa.toInt := Int.le_trans (by clear ih n1 n2 e1 e2; omega) hb2
      obtain ⟨A, a1, a2, a3, a4⟩ := am_all ha0
      rw [e2, a1] at c2
      rw [a1] at ha hb2 hm
      rw [a2, a4, a1]
      have q1 : (aa + (-1)).toInt ≤ 111 := by rw [a3]; clear ih n1 n2 e1 e2 a1 a2 a3 a4 c; omega
      have q2 : 33 + 2 * (p : Int) + 1 ≤ (aa + (-1)).toInt := by rw [a3]; clear ih n1 n2 e1 e2 a1 a2 a3 a4 c q1; omega
      have q3 : ((aa + (-1)).toInt - (33 + 2 * (p : Int) + 1)).toNat < fu := by rw [a3]; clear ih n1 n2 e1 e2 a1 a2 a3 a4 c q1 q2; omega
      rw [ih _ _ q1 q2 q3 j, a3]
      clear ih n1 n2 e1 e2 a1 a2 a3 a4 c q1 q2 q3 hp
      by_cases h1 : j = 33 + 2 * p + 1
      · rw [if_pos h1, if_pos h1]
      · rw [if_neg h1, if_neg h1]
        by_cases h2 : j = 33 + 2 * p
        · rw [if_pos h2, if_pos h2]
        · rw [if_neg h2, if_neg h2]
          by_cases h3 : j = 32
          · rw [if_pos h3, if_pos h3, va_up_ne _ _ (by omega)]
          · rw [if_neg h3, if_neg h3]
            by_cases h4 : j = A
            · rw [if_neg (by omega), if_pos (by omega), h4, va_up_self]
            · by_cases h5 : 33 + 2 * p + 1 < j ∧ (j : Int) ≤ (A : Int)
              · rw [if_pos (by omega), if_pos h5, va_up_ne _ _ (by omega)]
              · rw [if_neg (by omega), if_neg h5, va_up_ne _ _ h4]
theorem ins_P {σ : Nat → Int32} {ke va : Int32} {p m : Nat} (hm : (σ 32).toInt = m) (hm8 : m ≤ 8) (hp : (S_X10_place σ 33 (σ 32) ke).toInt = p) (j : Nat) : S_X10_insert_P σ ke va j = if j = 33 + 2 * p + 1 then va else if j = 33 + 2 * p then ke else if S_X10_isAt σ 33 (σ 32) (S_X10_place σ 33 (σ 32) ke) ke = 0 then (if j = 32 then σ 32 + 1 else if 33 + 2 * p + 1 < j ∧ j ≤ 33 + 2 * m + 1 then σ (j - 2) else σ j) else σ j := by
  have hpm : p ≤ m := by
    have h1 := (place_bd (σ := σ) (li := 33) (ma := σ 32) (ke := ke) (by rw [hm]; exact Int.natCast_nonneg m)).2
    rw [hp, hm] at h1
    exact Int.ofNat_le.mp h1
  have f2 := (ins_ix (li := 33) (L := 33) (P := σ 32) (by decide) rfl hm hm8).1.2
  obtain ⟨⟨e1, e2⟩, n1, n2⟩ := ins_ix (li := 33) (L := 33) (by decide) rfl hp (Nat.le_trans hpm hm8)
  unfold S_X10_insert_P
  by_cases c : S_X10_isAt σ 33 (σ 32) (S_X10_place σ 33 (σ 32) ke) ke = 0
  · rw [if_pos c, L_ins_P hp (Nat.le_trans hpm hm8) _ _ _ (by rw [f2]; omega) (by rw [f2]; omega) (by rw [e2, f2]; omega) j, if_pos c, f2]
    by_cases h1 : j = 33 + 2 * p + 1
    · rw [if_pos h1, if_pos h1]
    · rw [if_neg h1, if_neg h1]
      by_cases h2 : j = 33 + 2 * p
      · rw [if_pos h2, if_pos h2]
      · rw [if_neg h2, if_neg h2]
        by_cases h3 : j = 32
        · rw [if_pos h3, if_pos h3]
        · rw [if_neg h3, if_neg h3]
          by_cases h5 : 33 + 2 * p + 1 < j ∧ j ≤ 33 + 2 * m + 1
          · rw [if_pos (by omega), if_pos h5]
          · rw [if_neg (by omega), if_neg h5]
  · rw [if_neg c, if_neg c, n1, n2]
    show va_up (va_up σ (33 + 2 * p) ke) (33 + 2 * p + 1) va j = _
    simp only [va_up]
/-- what insert does, place by place -/
theorem L_ins_R {σ : Nat → Int32} {ke va : Int32} {p : Nat} (hp : (S_X10_place σ 50 (σ 49) ke).toInt = p) (hp8 : p ≤ 8) : ∀ (fu : Nat) (aa : Int32) (σ1 : Nat → Int32), aa.toInt ≤ 111 → 50 + 2 * (p : Int) + 1 ≤ aa.toInt → (aa.toInt - (50 + 2 * (p : Int) + 1)).toNat < fu → ∀ j : Nat, L_X10_insert_R_45 fu σ ke va aa σ1 j = if j = 50 + 2 * p + 1 then va else if j = 50 + 2 * p then ke else if j = 49 then σ1 49 + 1 else if 50 + 2 * p + 1 < j ∧ (j : Int) ≤ aa.toInt then σ1 (j - 2) else σ1 j := by
  intro fu
  induction fu with
  | zero => intro _ _ _ _ h; exact absurd h (Nat.not_lt_zero _)
  | succ fu ih =>
    intro aa σ1 ha hb2 hm j
    unfold L_X10_insert_R_45
    generalize S_X10_place σ 50 (σ 49) ke = P at hp ⊢
    obtain ⟨⟨e1, e2⟩, n1, n2⟩ := ins_ix (li := 50) (L := 50) (by decide) rfl hp hp8
    by_cases c : aa ≤ 50 + 2 * P + 1
    · rw [if_pos c]
      have c2 := Int32.le_iff_toInt_le.mp c
      rw [n1, n2]
      show va_up (va_up (va_up σ1 49 (σ1 49 + 1)) (50 + 2 * p) ke) (50 + 2 * p + 1) va j = _
      simp only [va_up]
      by_cases h1 : j = 50 + 2 * p + 1
      · rw [if_pos h1, if_pos h1]
      · rw [if_neg h1, if_neg h1]
        by_cases h2 : j = 50 + 2 * p
        · rw [if_pos h2, if_pos h2]
        · rw [if_neg h2, if_neg h2]
          by_cases h3 : j = 49
          · rw [if_pos h3, if_pos h3]
          · rw [if_neg h3, if_neg h3, if_neg (by omega)]
    · rw [if_neg c]
      have c2 := nle c
      have ha0 : 34 ≤ aa.toInt := Int.le_trans (by clear ih n1 n2 e1 e2; omega) hb2
      obtain ⟨A, a1, a2, a3, a4⟩ := am_all ha0
      rw [e2, a1] at c2
      rw [a1] at ha hb2 hm
      rw [a2, a4, a1]
      have q1 : (aa + (-1)).toInt ≤ 111 := by rw [a3]; clear ih n1 n2 e1 e2 a1 a2 a3 a4 c; omega
      have q2 : 50 + 2 * (p : Int) + 1 ≤ (aa + (-1)).toInt := by rw [a3]; clear ih n1 n2 e1 e2 a1 a2 a3 a4 c q1; omega
      have q3 : ((aa + (-1)).toInt - (50 + 2 * (p : Int) + 1)).toNat < fu := by rw [a3]; clear ih n1 n2 e1 e2 a1 a2 a3 a4 c q1 q2; omega
      rw [ih _ _ q1 q2 q3 j, a3]
      clear ih n1 n2 e1 e2 a1 a2 a3 a4 c q1 q2 q3 hp
      by_cases h1 : j = 50 + 2 * p + 1
      · rw [if_pos h1, if_pos h1]
      · rw [if_neg h1, if_neg h1]
        by_cases h2 : j = 50 + 2 * p
        · rw [if_pos h2, if_pos h2]
        · rw [if_neg h2, if_neg h2]
          by_cases h3 : j = 49
          · rw [if_pos h3, if_pos h3, va_up_ne _ _ (by omega)]
          · rw [if_neg h3, if_neg h3]
            by_cases h4 : j = A
            · rw [if_neg (by omega), if_pos (by omega), h4, va_up_self]
            · by_cases h5 : 50 + 2 * p + 1 < j ∧ (j : Int) ≤ (A : Int)
              · rw [if_pos (by omega), if_pos h5, va_up_ne _ _ (by omega)]
              · rw [if_neg (by omega), if_neg h5, va_up_ne _ _ h4]
theorem ins_R {σ : Nat → Int32} {ke va : Int32} {p m : Nat} (hm : (σ 49).toInt = m) (hm8 : m ≤ 8) (hp : (S_X10_place σ 50 (σ 49) ke).toInt = p) (j : Nat) : S_X10_insert_R σ ke va j = if j = 50 + 2 * p + 1 then va else if j = 50 + 2 * p then ke else if S_X10_isAt σ 50 (σ 49) (S_X10_place σ 50 (σ 49) ke) ke = 0 then (if j = 49 then σ 49 + 1 else if 50 + 2 * p + 1 < j ∧ j ≤ 50 + 2 * m + 1 then σ (j - 2) else σ j) else σ j := by
  have hpm : p ≤ m := by
    have h1 := (place_bd (σ := σ) (li := 50) (ma := σ 49) (ke := ke) (by rw [hm]; exact Int.natCast_nonneg m)).2
    rw [hp, hm] at h1
    exact Int.ofNat_le.mp h1
  have f2 := (ins_ix (li := 50) (L := 50) (P := σ 49) (by decide) rfl hm hm8).1.2
  obtain ⟨⟨e1, e2⟩, n1, n2⟩ := ins_ix (li := 50) (L := 50) (by decide) rfl hp (Nat.le_trans hpm hm8)
  unfold S_X10_insert_R
  by_cases c : S_X10_isAt σ 50 (σ 49) (S_X10_place σ 50 (σ 49) ke) ke = 0
  · rw [if_pos c, L_ins_R hp (Nat.le_trans hpm hm8) _ _ _ (by rw [f2]; omega) (by rw [f2]; omega) (by rw [e2, f2]; omega) j, if_pos c, f2]
    by_cases h1 : j = 50 + 2 * p + 1
    · rw [if_pos h1, if_pos h1]
    · rw [if_neg h1, if_neg h1]
      by_cases h2 : j = 50 + 2 * p
      · rw [if_pos h2, if_pos h2]
      · rw [if_neg h2, if_neg h2]
        by_cases h3 : j = 49
        · rw [if_pos h3, if_pos h3]
        · rw [if_neg h3, if_neg h3]
          by_cases h5 : 50 + 2 * p + 1 < j ∧ j ≤ 50 + 2 * m + 1
          · rw [if_pos (by omega), if_pos h5]
          · rw [if_neg (by omega), if_neg h5]
  · rw [if_neg c, if_neg c, n1, n2]
    show va_up (va_up σ (50 + 2 * p) ke) (50 + 2 * p + 1) va j = _
    simp only [va_up]
