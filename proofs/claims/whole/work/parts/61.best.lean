theorem dev_loop {π μ α1 σ0 ρ0 θ0 : Nat → Int32} {bi ti : Int32} {T : Nat} (eT : ti.toInt = T) (hT : T ≤ 100) : ∀ (fu : Nat) (k : Int32) (K : Nat) (de : Int32) (θ1 σ1 : Nat → Int32), k.toInt = K → K ≤ T → T - K < fu → CR θ1 π μ σ1 → ¬ σ1 32 = 0 → 0 ≤ (σ1 18).toInt → (σ1 18).toInt ≤ 100000 + K → (L_X9_deviationWith_38 fu ρ0 π μ θ0 bi ti de k θ1).1 = (L_X10_offWith_21 fu σ0 α1 bi ti de k σ1).1 ∧ ∀ j, j < 112 → (L_X10_offWith_21 fu σ0 α1 bi ti de k σ1).2 j = α1 j := by
  intro fu
  induction fu with
  | zero => intro _ _ _ _ _ _ _ h; exact absurd h (Nat.not_lt_zero _)
  | succ fu ih =>
    intro k K de θ1 σ1 hk hK hf hC h32 h0 ha
    unfold L_X9_deviationWith_38 L_X10_offWith_21
    by_cases c : ti ≤ k
    · rw [if_pos c, if_pos c]
      refine ⟨rfl, fun j hj => ?_⟩
      dsimp only
      rw [release_pt, if_pos hj]
    · have c2 := nle c
      rw [hk, eT] at c2
      rw [if_neg c, if_neg c]
      obtain ⟨t1, t2, _, t4⟩ := CR_tick hC (by omega)
      try dsimp only
      have at' : 0 ≤ (S_X10_tick σ1 18).toInt ∧ (S_X10_tick σ1 18).toInt ≤ 100000 + ((K + 1 : Nat) : Int) := by
        rcases t2 with t2 | t2
        · rw [t2]; omega
        · rw [t2, ta (b := 1) (by show -2147483648 ≤ (σ1 18).toInt + 1; omega) (by show (σ1 18).toInt + 1 < 2147483648; omega)]
          show 0 ≤ (σ1 18).toInt + 1 ∧ (σ1 18).toInt + 1 ≤ _
          omega
      have h32' : ¬ S_X10_tick σ1 32 = 0 := by rw [t4 32 (by decide)]; exact h32
      generalize S_X10_tick σ1 = σ2 at *
      generalize S_X4_tick θ1 π μ = θ2 at *
      have e18 : θ2 18 = σ2 18 := t1.1 18 (by decide) (by decide) (by simp)
      have e4 : θ2 4 = σ2 4 := t1.1 4 (by decide) (by decide) (by simp)
      have ln := (CR_line (t := σ2 18) t1 (fun _ _ => rfl) h32' (by omega)).1
      rw [e18, e4, ln]
      exact ih (k + 1) (K + 1) _ θ2 σ2 (k_up hk (by omega)) (by omega) (by omega) t1 h32' at'.1 at'.2
theorem dev_eq {ρ π μ σ σ1 α1 θ : Nat → Int32} {bi ti : Int32} (hC : CR ρ π μ σ) (hs : ∀ j, j < 112 → σ1 j = σ j) (h32 : ¬ σ 32 = 0) (hb : 0 ≤ bi.toInt ∧ bi.toInt ≤ 100) (ht : 1 ≤ ti.toInt ∧ ti.toInt ≤ 100) (ha : 0 ≤ (σ 18).toInt ∧ (σ 18).toInt ≤ 10000) : (S_X9_deviationWith ρ π μ θ bi ti).1 = (S_X10_offWith σ1 α1 bi ti).1 ∧ ∀ j, j < 112 → (S_X10_offWith σ1 α1 bi ti).2 j = α1 j := by
  have c0 : CR (S_X4_copyFrom θ ρ) π μ σ1 := CR_congr hs (CR_roaster hC (fun k a b c => roaster_copy a b c))
  have T1 : TK (va_up σ1 9 1) := TK_at c0.2.2.1 ⟨fun e => absurd e (by decide), fun _ => Or.inr rfl, fun e => absurd e (by decide)⟩ (by decide)
  have c1 := CR_set (k := 9) (v := 1) c0 (by decide) T1
  have T2 : TK (va_up (va_up σ1 9 1) 12 bi) := TK_at T1 ⟨fun e => absurd e (by decide), fun e => absurd e (by decide), fun e => absurd e (by decide)⟩ (by decide)
  have c2 := CR_set (k := 12) (v := bi) c1 (by decide) T2
  obtain ⟨T, eT⟩ : ∃ T : Nat, ti.toInt = T := ⟨ti.toInt.toNat, by omega⟩
  have e18 : va_up (va_up σ1 9 1) 12 bi 18 = σ 18 := hs 18 (by decide)
  have e32 : va_up (va_up σ1 9 1) 12 bi 32 = σ 32 := hs 32 (by decide)
  have z0 : (0 : Int32).toInt = 0 := rfl
  unfold S_X9_deviationWith S_X10_offWith
  exact dev_loop eT (by omega) _ 0 0 0 _ _ rfl (Nat.zero_le _) (by rw [eT, z0]; omega) c2 (by rw [e32]; exact h32) (by rw [e18]; exact ha.1) (by rw [e18]; omega)
theorem best_loop {ρ π μ σ α κ κ1 α1 θ0 : Nat → Int32} {ti : Int32} (hC : CR ρ π μ σ) (h32 : ¬ σ 32 = 0) (ht : 1 ≤ ti.toInt ∧ ti.toInt ≤ 100) (ha : 0 ≤ (σ 18).toInt ∧ (σ 18).toInt ≤ 10000) (hα : ∀ j, j < 112 → α1 j = σ j) : ∀ (fu : Nat) (k : Int32) (K : Nat) (be sm : Int32) (θ1 σ1 : Nat → Int32), k.toInt = K → K ≤ 101 → 101 - K < fu → (∀ j, j < 112 → σ1 j = σ j) → (L_X9_bestBias_49 fu ρ π μ θ0 ti be sm k θ1).1 = (L_X10_bestBias_54 fu κ σ α ti be sm k κ1 σ1 α1).1 ∧ (L_X10_bestBias_54 fu κ σ α ti be sm k κ1 σ1 α1).2.1 = κ1 ∧ ∀ j, j < 112 → (L_X10_bestBias_54 fu κ σ α ti be sm k κ1 σ1 α1).2.2.1 j = σ j := by
  intro fu
  induction fu with
  | zero => intro _ _ _ _ _ _ _ _ h; exact absurd h (Nat.not_lt_zero _)
  | succ fu ih =>
    intro k K be sm θ1 σ1 hk hK hf hs
    unfold L_X9_bestBias_49 L_X10_bestBias_54
    have z : (100 : Int32).toInt = 100 := rfl
    by_cases c : 100 < k
    · rw [if_pos c, if_pos c]
      exact ⟨rfl, rfl, hs⟩
    · have c2 := nlt c
      rw [hk, z] at c2
      rw [if_neg c, if_neg c]
      obtain ⟨d1, d2⟩ := dev_eq (θ := θ1) (α1 := α1) (bi := k) hC hs h32 (by rw [hk]; omega) ht ha
      try dsimp only
      rw [d1]
      generalize S_X10_offWith σ1 α1 k ti = Y at *
      exact ih (k + 1) (K + 1) _ _ _ _ (k_up hk (by omega)) (by omega) (by omega) (fun j hj => by rw [d2 j hj]; exact hα j hj)
theorem bestBias_eq {N : Nat} {h : Hp} {κ σ β τ α : Nat → Int32} (hC : CI N h κ σ β τ) (ti : Int32) : (S_X9_bestBias (h 2) (h 3) (h 4) (h 6) ti).1 = (S_X10_bestBias κ σ α ti).1 ∧ CI (N + 1) (va_up h 6 (S_X9_bestBias (h 2) (h 3) (h 4) (h 6) ti).2) (S_X10_bestBias κ σ α ti).2.1 (S_X10_bestBias κ σ α ti).2.2.1 β τ := by
  have go : ∀ (θ' κ' σ' : Nat → Int32), (∀ j, j < 112 → σ' j = σ j) → κ' = va_up κ 0 0 → CI (N + 1) (va_up h 6 θ') κ' σ' β τ := fun θ' κ' σ' hs hk => by
    subst hk
    obtain ⟨a, b⟩ := SR_row (g := 6) (r := θ') (by decide) hC
    exact ⟨SR_congr hs a, b _ rfl, TX_congr (va_up_ne _ _ (by decide)) rfl hC.2.2⟩
  unfold S_X9_bestBias S_X10_bestBias
  have e3 : h 3 0 = σ 32 := by
    obtain ⟨m, g, r⟩ := hC.1.1.2.2.2.1
    exact r 0 (by omega)
  rw [in_eq, hC.rows (k := 1) (by decide) (by decide) (by simp), e3]
  try dsimp only
  by_cases c0 : S_X10_in ti 1 100 = 0
  · rw [if_pos c0, if_pos c0]
    exact ⟨rfl, go _ _ _ (fun j hj => rfl) rfl⟩
  rw [if_neg c0, if_neg c0]
  by_cases c1 : σ 1 = 1
  · have nr : ¬ S_X10_isRoasting σ = 0 := fun c => (roasting_iff σ).mp c c1
    rw [if_pos c1, if_neg nr]
    by_cases c2 : σ 32 = 0
    · rw [if_pos c2, if_pos c2]
      exact ⟨rfl, go _ _ _ (fun j hj => rfl) rfl⟩
    · rw [if_neg c2, if_neg c2]
      have w := hC.1.2.2.1
      have b := in_iff c0
      have z1 : (1 : Int32).toInt = 1 := rfl
      have z2 : (100 : Int32).toInt = 100 := rfl
      rw [z1, z2] at b
      have hα : ∀ j, j < 112 → S_X10_hold σ α j = σ j := fun j hj => by rw [hold_pt, if_pos hj]
      obtain ⟨d1, d2⟩ := dev_eq (θ := h 6) (α1 := S_X10_hold σ α) (bi := 0) hC.1.1 (fun j hj => rfl) c2 (by decide) b ⟨w.1, by omega⟩
      rw [d1]
      generalize S_X10_hold σ α = α1 at *
      generalize S_X10_offWith σ α1 0 ti = Y at *
      obtain ⟨x1, x2, x3⟩ := best_loop (κ := κ) (κ1 := va_up κ 0 0) (α := α) (α1 := α1) (θ0 := h 6) hC.1.1 c2 b ⟨w.1, by omega⟩ hα 102 1 1 0 Y.1 (S_X9_deviationWith (h 2) (h 3) (h 4) (h 6) 0 ti).2 Y.2 rfl (by decide) (by decide) (fun j hj => by rw [d2 j hj]; exact hα j hj)
      generalize L_X10_bestBias_54 102 κ σ α ti 0 Y.1 1 (va_up κ 0 0) Y.2 α1 = X at *
      exact ⟨x1, go _ _ _ x3 x2⟩
  · have yr : S_X10_isRoasting σ = 0 := (roasting_iff σ).mpr c1
    rw [if_neg c1, if_pos yr]
    exact ⟨rfl, go _ _ _ (fun j hj => rfl) rfl⟩
