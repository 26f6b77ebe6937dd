theorem until_B {π μ α1 σ0 α0 : Nat → Int32} {ρ0 θ0 : Nat → Int32} {te : Int32} : ∀ (fu1 fu2 : Nat) (k : Int32) (K : Nat) (θ1 σ1 : Nat → Int32), k.toInt = K → K ≤ 200 → 201 - K < fu1 → 201 - K < fu2 → CR θ1 π μ σ1 → 0 ≤ (σ1 18).toInt → (σ1 18).toInt ≤ 100000 + K → (L_X9_ticksTo_41 fu1 ρ0 π μ θ0 te k θ1).1 = (L_X10_ticksUntil_B_24 fu2 σ0 α0 te (if σ1 16 < te then -100009 else k) (k + 1) σ1 α1).1 ∧ (L_X10_ticksUntil_B_24 fu2 σ0 α0 te (if σ1 16 < te then -100009 else k) (k + 1) σ1 α1).2.2 = α1 ∧ ∀ j, j < 112 → (L_X10_ticksUntil_B_24 fu2 σ0 α0 te (if σ1 16 < te then -100009 else k) (k + 1) σ1 α1).2.1 j = α1 j := by
  intro fu1
  induction fu1 with
  | zero => intro _ _ _ _ _ _ _ h; exact absurd h (Nat.not_lt_zero _)
  | succ fu1 ih =>
    intro fu2 k K θ1 σ1 hk hK hf1 hf2 hC h0 ha
    cases fu2 with
    | zero => exact absurd hf2 (Nat.not_lt_zero _)
    | succ fu2 =>
      have z200 : (200 : Int32).toInt = 200 := rfl
      have k1 := k_up hk (by omega)
      have eP : θ1 16 = σ1 16 := hC.1 16 (by decide) (by decide) (by simp)
      unfold L_X9_ticksTo_41 L_X10_ticksUntil_B_24
      rw [if_neg (show ¬ 200 < k from fun q => by have := Int32.lt_iff_toInt_lt.mp q; omega), eP]
      by_cases c : σ1 16 < te
      · rw [if_pos c, if_pos c]
        by_cases e : 200 < k + 1
        · have e2 := Int32.lt_iff_toInt_lt.mp e
          rw [k1, z200] at e2
          rw [if_pos e]
          refine ⟨?_, rfl, fun j hj => by dsimp only; rw [release_pt, if_pos hj]⟩
          try dsimp only
          cases fu1 with
          | zero => omega
          | succ fu1 =>
            unfold L_X9_ticksTo_41
            rw [if_pos e]
        · have e2 := nlt e
          rw [k1, z200] at e2
          rw [if_neg e, if_pos rfl]
          obtain ⟨t1, t2, _, _⟩ := CR_tick hC (by omega)
          try dsimp only
          have at' : 0 ≤ (S_X10_tick σ1 18).toInt ∧ (S_X10_tick σ1 18).toInt ≤ 100000 + ((K + 1 : Nat) : Int) := by
            rcases t2 with t2 | t2
            · rw [t2]; omega
            · rw [t2, ta (b := 1) (by show -2147483648 ≤ (σ1 18).toInt + 1; omega) (by show (σ1 18).toInt + 1 < 2147483648; omega)]
              show 0 ≤ (σ1 18).toInt + 1 ∧ (σ1 18).toInt + 1 ≤ _
              omega
          exact ih fu2 (k + 1) (K + 1) (S_X4_tick θ1 π μ) (S_X10_tick σ1) k1 (by omega) (by omega) (by omega) t1 at'.1 at'.2
      · rw [if_neg c, if_neg c]
        by_cases e : 200 < k + 1
        · rw [if_pos e]
          exact ⟨rfl, rfl, fun j hj => by dsimp only; rw [release_pt, if_pos hj]⟩
        · rw [if_neg e, if_neg (show ¬ k = -100009 from fun q => by
            rw [q] at hk
            have : (-100009 : Int32).toInt = -100009 := rfl
            omega)]
          exact ⟨rfl, rfl, fun j hj => by dsimp only; rw [release_pt, if_pos hj]⟩
theorem ticksTo_eq {N : Nat} {h : Hp} {κ σ β τ α : Nat → Int32} (hC : CI N h κ σ β τ) (te : Int32) : (S_X9_ticksTo (h 2) (h 3) (h 4) (h 6) te).1 = (S_X10_ticksTo κ σ α te).1 ∧ CI (N + 1) (va_up h 6 (S_X9_ticksTo (h 2) (h 3) (h 4) (h 6) te).2) (S_X10_ticksTo κ σ α te).2.1 (S_X10_ticksTo κ σ α te).2.2.1 β τ := by
  have go : ∀ (θ' κ' σ' : Nat → Int32), (∀ j, j < 112 → σ' j = σ j) → κ' = va_up κ 0 0 → CI (N + 1) (va_up h 6 θ') κ' σ' β τ := fun θ' κ' σ' hs hk => by
    subst hk
    obtain ⟨a, b⟩ := SR_row (g := 6) (r := θ') (by decide) hC
    exact ⟨SR_congr hs a, b _ rfl, TX_congr (va_up_ne _ _ (by decide)) rfl hC.2.2⟩
  unfold S_X9_ticksTo S_X10_ticksTo
  rw [in_eq, hC.rows (k := 1) (by decide) (by decide) (by simp)]
  by_cases c0 : S_X10_in te 0 3000 = 0
  · rw [if_pos c0]
    try dsimp only
    rw [if_pos c0]
    exact ⟨rfl, go _ _ _ (fun j hj => rfl) rfl⟩
  rw [if_neg c0]
  try dsimp only
  rw [if_neg c0]
  by_cases c1 : σ 1 = 1
  · have nr : ¬ S_X10_isRoasting σ = 0 := fun c => (roasting_iff σ).mp c c1
    rw [if_pos c1, if_neg nr, if_neg nr]
    have w := hC.1.2.2.1
    obtain ⟨x1, x2, x3⟩ := until_B (π := h 3) (μ := h 4) (α1 := S_X10_hold σ α) (σ0 := σ) (α0 := α) (ρ0 := h 2) (θ0 := h 6) (te := te) 202 202 0 0 (S_X4_copyFrom (h 6) (h 2)) σ rfl (by decide) (by decide) (by simp) (CR_roaster hC.1.1 (fun k a b c => roaster_copy a b c)) w.1 (by omega)
    unfold S_X10_ticksUntil_B
    try dsimp only
    have z01 : (0 : Int32) + 1 = 1 := rfl
    rw [z01] at x1 x2 x3
    generalize L_X10_ticksUntil_B_24 202 σ α te (if σ 16 < te then -100009 else 0) 1 σ (S_X10_hold σ α) = X at *
    refine ⟨x1, go _ _ _ (fun j hj => ?_) rfl⟩
    rw [x3 j hj, hold_pt, if_pos hj]
  · have yr : S_X10_isRoasting σ = 0 := (roasting_iff σ).mpr c1
    rw [if_neg c1, if_pos yr, if_pos yr]
    exact ⟨rfl, go _ _ _ (fun j hj => rfl) rfl⟩
theorem until_L {π μ α1 σ0 α0 : Nat → Int32} {ρ0 θ0 : Nat → Int32} {te : Int32} : ∀ (fu1 fu2 : Nat) (k : Int32) (K : Nat) (θ1 σ1 : Nat → Int32), k.toInt = K → K ≤ 200 → 201 - K < fu1 → 201 - K < fu2 → CR θ1 π μ σ1 → 0 ≤ (σ1 18).toInt → (σ1 18).toInt ≤ 100000 + K → (L_X9_ticksToLoss_40 fu1 ρ0 π μ θ0 te k θ1).1 = (L_X10_ticksUntil_L_24 fu2 σ0 α0 te (if σ1 19 < te then -100009 else k) (k + 1) σ1 α1).1 ∧ (L_X10_ticksUntil_L_24 fu2 σ0 α0 te (if σ1 19 < te then -100009 else k) (k + 1) σ1 α1).2.2 = α1 ∧ ∀ j, j < 112 → (L_X10_ticksUntil_L_24 fu2 σ0 α0 te (if σ1 19 < te then -100009 else k) (k + 1) σ1 α1).2.1 j = α1 j := by
  intro fu1
  induction fu1 with
  | zero => intro _ _ _ _ _ _ _ h; exact absurd h (Nat.not_lt_zero _)
  | succ fu1 ih =>
    intro fu2 k K θ1 σ1 hk hK hf1 hf2 hC h0 ha
    cases fu2 with
    | zero => exact absurd hf2 (Nat.not_lt_zero _)
    | succ fu2 =>
      have z200 : (200 : Int32).toInt = 200 := rfl
      have k1 := k_up hk (by omega)
      have eP : θ1 19 = σ1 19 := hC.1 19 (by decide) (by decide) (by simp)
      unfold L_X9_ticksToLoss_40 L_X10_ticksUntil_L_24
      rw [if_neg (show ¬ 200 < k from fun q => by have := Int32.lt_iff_toInt_lt.mp q; omega), eP]
      by_cases c : σ1 19 < te
      · rw [if_pos c, if_pos c]
        by_cases e : 200 < k + 1
        · have e2 := Int32.lt_iff_toInt_lt.mp e
          rw [k1, z200] at e2
          rw [if_pos e]
          refine ⟨?_, rfl, fun j hj => by dsimp only; rw [release_pt, if_pos hj]⟩
          try dsimp only
          cases fu1 with
          | zero => omega
          | succ fu1 =>
            unfold L_X9_ticksToLoss_40
            rw [if_pos e]
        · have e2 := nlt e
          rw [k1, z200] at e2
          rw [if_neg e, if_pos rfl]
          obtain ⟨t1, t2, _, _⟩ := CR_tick hC (by omega)
          try dsimp only
          have at' : 0 ≤ (S_X10_tick σ1 18).toInt ∧ (S_X10_tick σ1 18).toInt ≤ 100000 + ((K + 1 : Nat) : Int) := by
            rcases t2 with t2 | t2
            · rw [t2]; omega
            · rw [t2, ta (b := 1) (by show -2147483648 ≤ (σ1 18).toInt + 1; omega) (by show (σ1 18).toInt + 1 < 2147483648; omega)]
              show 0 ≤ (σ1 18).toInt + 1 ∧ (σ1 18).toInt + 1 ≤ _
              omega
          exact ih fu2 (k + 1) (K + 1) (S_X4_tick θ1 π μ) (S_X10_tick σ1) k1 (by omega) (by omega) (by omega) t1 at'.1 at'.2
      · rw [if_neg c, if_neg c]
        by_cases e : 200 < k + 1
        · rw [if_pos e]
          exact ⟨rfl, rfl, fun j hj => by dsimp only; rw [release_pt, if_pos hj]⟩
        · rw [if_neg e, if_neg (show ¬ k = -100009 from fun q => by
            rw [q] at hk
            have : (-100009 : Int32).toInt = -100009 := rfl
            omega)]
          exact ⟨rfl, rfl, fun j hj => by dsimp only; rw [release_pt, if_pos hj]⟩
theorem ticksToLoss_eq {N : Nat} {h : Hp} {κ σ β τ α : Nat → Int32} (hC : CI N h κ σ β τ) (te : Int32) : (S_X9_ticksToLoss (h 2) (h 3) (h 4) (h 6) te).1 = (S_X10_ticksToLoss κ σ α te).1 ∧ CI (N + 1) (va_up h 6 (S_X9_ticksToLoss (h 2) (h 3) (h 4) (h 6) te).2) (S_X10_ticksToLoss κ σ α te).2.1 (S_X10_ticksToLoss κ σ α te).2.2.1 β τ := by
  have go : ∀ (θ' κ' σ' : Nat → Int32), (∀ j, j < 112 → σ' j = σ j) → κ' = va_up κ 0 0 → CI (N + 1) (va_up h 6 θ') κ' σ' β τ := fun θ' κ' σ' hs hk => by
    subst hk
    obtain ⟨a, b⟩ := SR_row (g := 6) (r := θ') (by decide) hC
    exact ⟨SR_congr hs a, b _ rfl, TX_congr (va_up_ne _ _ (by decide)) rfl hC.2.2⟩
  unfold S_X9_ticksToLoss S_X10_ticksToLoss
  rw [in_eq, hC.rows (k := 1) (by decide) (by decide) (by simp)]
  by_cases c0 : S_X10_in te 0 100000 = 0
  · rw [if_pos c0]
    try dsimp only
    rw [if_pos c0]
    exact ⟨rfl, go _ _ _ (fun j hj => rfl) rfl⟩
  rw [if_neg c0]
  try dsimp only
  rw [if_neg c0]
  by_cases c1 : σ 1 = 1
  · have nr : ¬ S_X10_isRoasting σ = 0 := fun c => (roasting_iff σ).mp c c1
    rw [if_pos c1, if_neg nr, if_neg nr]
    have w := hC.1.2.2.1
    obtain ⟨x1, x2, x3⟩ := until_L (π := h 3) (μ := h 4) (α1 := S_X10_hold σ α) (σ0 := σ) (α0 := α) (ρ0 := h 2) (θ0 := h 6) (te := te) 202 202 0 0 (S_X4_copyFrom (h 6) (h 2)) σ rfl (by decide) (by decide) (by simp) (CR_roaster hC.1.1 (fun k a b c => roaster_copy a b c)) w.1 (by omega)
    unfold S_X10_ticksUntil_L
    try dsimp only
    have z01 : (0 : Int32) + 1 = 1 := rfl
    rw [z01] at x1 x2 x3
    generalize L_X10_ticksUntil_L_24 202 σ α te (if σ 19 < te then -100009 else 0) 1 σ (S_X10_hold σ α) = X at *
    refine ⟨x1, go _ _ _ (fun j hj => ?_) rfl⟩
    rw [x3 j hj, hold_pt, if_pos hj]
  · have yr : S_X10_isRoasting σ = 0 := (roasting_iff σ).mpr c1
    rw [if_neg c1, if_pos yr, if_pos yr]
    exact ⟨rfl, go _ _ _ (fun j hj => rfl) rfl⟩
