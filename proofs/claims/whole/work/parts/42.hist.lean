theorem L_hold_pt {σ α : Nat → Int32} : ∀ (fu : Nat) (k : Int32) (K : Nat) (α1 : Nat → Int32), k.toInt = K → K ≤ 112 → 112 - K < fu → ∀ j, L_X10_hold_2 fu σ α k α1 j = if K ≤ j ∧ j < 112 then σ j else α1 j := by
  intro fu
  induction fu with
  | zero => intro _ _ _ _ _ h; exact absurd h (Nat.not_lt_zero _)
  | succ fu ih =>
    intro k K α1 hk hK hf j
    unfold L_X10_hold_2
    have z : (112 : Int32).toInt = 112 := rfl
    by_cases c : 112 ≤ k
    · have c2 := Int32.le_iff_toInt_le.mp c
      rw [hk, z] at c2
      rw [if_pos c, if_neg (by omega)]
    · have c2 := nle c
      rw [hk, z] at c2
      rw [if_neg c, i_eq hk, ih _ (K + 1) _ (k_up hk (by omega)) (by omega) (by omega) j]
      clear ih hk c z
      simp only [va_up]
      repeat' split
      all_goals first | rfl | omega | (congr 1; omega)
theorem hold_pt {σ α : Nat → Int32} (j : Nat) : S_X10_hold σ α j = if j < 112 then σ j else α j := by
  unfold S_X10_hold
  rw [L_hold_pt 113 0 0 α rfl (by decide) (by decide) j]
  by_cases c : j < 112
  · rw [if_pos c, if_pos ⟨Nat.zero_le _, c⟩]
  · rw [if_neg c, if_neg (fun q => c q.2)]
theorem L_release_pt {σ α : Nat → Int32} : ∀ (fu : Nat) (k : Int32) (K : Nat) (σ1 : Nat → Int32), k.toInt = K → K ≤ 112 → 112 - K < fu → ∀ j, L_X10_release_2 fu σ α k σ1 j = if K ≤ j ∧ j < 112 then α j else σ1 j := by
  intro fu
  induction fu with
  | zero => intro _ _ _ _ _ h; exact absurd h (Nat.not_lt_zero _)
  | succ fu ih =>
    intro k K α1 hk hK hf j
    unfold L_X10_release_2
    have z : (112 : Int32).toInt = 112 := rfl
    by_cases c : 112 ≤ k
    · have c2 := Int32.le_iff_toInt_le.mp c
      rw [hk, z] at c2
      rw [if_pos c, if_neg (by omega)]
    · have c2 := nle c
      rw [hk, z] at c2
      rw [if_neg c, i_eq hk, ih _ (K + 1) _ (k_up hk (by omega)) (by omega) (by omega) j]
      clear ih hk c z
      simp only [va_up]
      repeat' split
      all_goals first | rfl | omega | (congr 1; omega)
theorem release_pt {σ α : Nat → Int32} (j : Nat) : S_X10_release σ α j = if j < 112 then α j else σ j := by
  unfold S_X10_release
  rw [L_release_pt 113 0 0 σ rfl (by decide) (by decide) j]
  by_cases c : j < 112
  · rw [if_pos c, if_pos ⟨Nat.zero_le _, c⟩]
  · rw [if_neg c, if_neg (fun q => c q.2)]
theorem blk {x k : Int32} {X K : Nat} (hx : x.toInt = X) (hX : X ≤ 5) (hk : k.toInt = K) (hK : K ≤ 112) : (112 * x + k).toInt = ((112 * X + K : Nat) : Int) := by
  have e : (112 * x).toInt = 112 * (X : Int) := by
    rw [tml (a := 112) (by rw [hx]; show -2147483648 ≤ 112 * (X : Int); omega) (by rw [hx]; show 112 * (X : Int) < 2147483648; omega), hx]
    rfl
  rw [ta (by rw [e, hk]; omega) (by rw [e, hk]; omega), e, hk]
  omega
theorem L_act_pt {κ σ β κ1 : Nat → Int32} {n : Nat} (hn : (κ1 1).toInt = n) (hn4 : n ≤ 4) : ∀ (fu : Nat) (k : Int32) (K : Nat) (β1 : Nat → Int32), k.toInt = K → K ≤ 112 → 112 - K < fu → (L_X10_act_50 fu κ σ β k κ1 β1).1 = va_up κ1 1 (κ1 1 + 1) ∧ ∀ j, (L_X10_act_50 fu κ σ β k κ1 β1).2 j = if 112 * n + K ≤ j ∧ j < 112 * n + 112 then σ (j - 112 * n) else β1 j := by
  intro fu
  induction fu with
  | zero => intro _ _ _ _ _ h; exact absurd h (Nat.not_lt_zero _)
  | succ fu ih =>
    intro k K β1 hk hK hf
    unfold L_X10_act_50
    have z : (112 : Int32).toInt = 112 := rfl
    by_cases c : 112 ≤ k
    · have c2 := Int32.le_iff_toInt_le.mp c
      rw [hk, z] at c2
      rw [if_pos c]
      refine ⟨rfl, fun j => ?_⟩
      rw [if_neg (by omega)]
    · have c2 := nle c
      rw [hk, z] at c2
      rw [if_neg c, i_eq (blk hn (by omega) hk (by omega)), i_eq hk]
      obtain ⟨a, b⟩ := ih _ (K + 1) (va_up β1 (112 * n + K) (σ K)) (k_up hk (by omega)) (by omega) (by omega)
      refine ⟨a, fun j => ?_⟩
      rw [b j]
      clear ih hk c z a b
      simp only [va_up]
      repeat' split
      all_goals first | rfl | omega | (congr 1; omega)
theorem L_shift_pt {κ σ β : Nat → Int32} (hn : (κ 1).toInt = 5) : ∀ (fu : Nat) (k : Int32) (K : Nat) (β1 : Nat → Int32), k.toInt = K → K ≤ 448 → 448 - K < fu → (L_X10_act_10 fu κ σ β k β1).1 = κ ∧ ∀ j, (L_X10_act_10 fu κ σ β k β1).2 j = if 448 ≤ j ∧ j < 560 then σ (j - 448) else if K ≤ j ∧ j < 448 then β1 (j + 112) else β1 j := by
  intro fu
  induction fu with
  | zero => intro _ _ _ _ _ h; exact absurd h (Nat.not_lt_zero _)
  | succ fu ih =>
    intro k K β1 hk hK hf
    unfold L_X10_act_10
    have z : (448 : Int32).toInt = 448 := rfl
    by_cases c : 448 ≤ k
    · have c2 := Int32.le_iff_toInt_le.mp c
      rw [hk, z] at c2
      rw [if_pos c]
      have e5 : κ 1 = 5 := Int32.toInt_inj.mp hn
      obtain ⟨a, b⟩ := L_act_pt (κ := κ) (σ := σ) (β := β) (κ1 := va_up κ 1 (κ 1 - 1)) (n := 4) (by rw [va_up_self, e5]; rfl) (by decide) 113 0 0 β1 rfl (by decide) (by decide)
      refine ⟨?_, fun j => ?_⟩
      · rw [a, va_up_up, va_up_self, e5]
        exact va_up_id2 (by rw [e5]; rfl)
      · rw [b j]
        clear a b ih hk c z
        repeat' split
        all_goals first | rfl | omega
    · have c2 := nle c
      rw [hk, z] at c2
      have e112 : (k + 112).toInt = ((K + 112 : Nat) : Int) := by
        rw [ta (b := 112) (by rw [hk]; show -2147483648 ≤ (K : Int) + 112; omega) (by rw [hk]; show (K : Int) + 112 < 2147483648; omega), hk]
        rfl
      rw [if_neg c, i_eq e112, i_eq hk]
      obtain ⟨a, b⟩ := ih _ (K + 1) (va_up β1 K (β1 (K + 112))) (k_up hk (by omega)) (by omega) (by omega)
      refine ⟨a, fun j => ?_⟩
      rw [b j]
      clear ih hk c z a b e112
      simp only [va_up]
      repeat' split
      all_goals first | rfl | omega | (congr 1; omega)
theorem act_lo {κ σ β : Nat → Int32} {n : Nat} (hn : (κ 1).toInt = n) (hn4 : n ≤ 4) : (S_X10_act κ σ β).1 = va_up κ 1 (κ 1 + 1) ∧ ∀ j, (S_X10_act κ σ β).2 j = if 112 * n ≤ j ∧ j < 112 * n + 112 then σ (j - 112 * n) else β j := by
  unfold S_X10_act
  rw [if_neg (fun c => by rw [c] at hn; have : (5 : Int32).toInt = 5 := rfl; omega)]
  exact L_act_pt hn hn4 113 0 0 β rfl (by decide) (by decide)
theorem act_hi {κ σ β : Nat → Int32} (hn : (κ 1).toInt = 5) : (S_X10_act κ σ β).1 = κ ∧ ∀ j, (S_X10_act κ σ β).2 j = if 448 ≤ j ∧ j < 560 then σ (j - 448) else if j < 448 then β (j + 112) else β j := by
  unfold S_X10_act
  rw [if_pos (Int32.toInt_inj.mp hn)]
  obtain ⟨a, b⟩ := L_shift_pt (σ := σ) (β := β) hn 449 0 0 β rfl (by decide) (by decide)
  refine ⟨a, fun j => ?_⟩
  rw [b j]
  by_cases c : 448 ≤ j ∧ j < 560
  · rw [if_pos c, if_pos c]
  · rw [if_neg c, if_neg c]
    by_cases d : j < 448
    · rw [if_pos d, if_pos ⟨Nat.zero_le _, d⟩]
    · rw [if_neg d, if_neg (fun q => d q.2)]
