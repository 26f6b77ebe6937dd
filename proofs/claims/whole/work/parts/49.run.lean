theorem SR_tick {M : Nat} {ρ π μ ν σ : Nat → Int32} (h : SR M ρ π μ ν σ) (ht : (σ 0).toInt + 1 ≤ 10000) : SR M (S_X4_tick ρ π μ) π μ ν (S_X10_tick σ) ∧ (S_X10_tick σ 0).toInt = (σ 0).toInt + 1 := by
  obtain ⟨hC, hL, ⟨w1, w2, w3, w4, w5⟩⟩ := h
  obtain ⟨a, b, z, e⟩ := CR_tick hC (by omega)
  generalize S_X10_tick σ = σ' at *
  generalize S_X4_tick ρ π μ = ρ' at *
  have zt : (σ' 0).toInt = (σ 0).toInt + 1 := by
    rw [z, ta (b := 1) (by show -2147483648 ≤ (σ 0).toInt + 1; omega) (by show (σ 0).toInt + 1 < 2147483648; omega)]
    rfl
  have at' : (σ' 18).toInt = (σ 18).toInt ∨ (σ' 18).toInt = (σ 18).toInt + 1 := by
    rcases b with b | b
    · exact Or.inl (by rw [b])
    · refine Or.inr ?_
      rw [b, ta (b := 1) (by show -2147483648 ≤ (σ 18).toInt + 1; omega) (by show (σ 18).toInt + 1 < 2147483648; omega)]
      rfl
  refine ⟨⟨a, fun j hj => by rw [e (62 + j) (by omega)]; exact hL j hj, ⟨by rw [e 6 (by decide)]; omega, by rw [e 1 (by decide)]; exact w2, by rw [e 63 (by decide)]; exact w3, by rw [e 63 (by decide), e 62 (by decide)]; exact w4, fun j hj => ?_⟩⟩, zt⟩
  rw [e 63 (by decide)] at hj
  rw [e 62 (by decide), e (64 + 6 * j) (by omega)]
  exact w5 j hj
theorem run_loop {M T : Nat} {h : Hp} {κ σ β κ1 β1 : Nat → Int32} {ti : Int32} (eT : ti.toInt = T) (hT : T ≤ 200) : ∀ (fu : Nat) (k : Int32) (K : Nat) (hh : Hp) (σ1 : Nat → Int32), k.toInt = K → K ≤ T → T - K < fu → SR M (hh 2) (hh 3) (hh 4) (hh 5) σ1 → (σ1 0).toInt + ((T - K : Nat) : Int) ≤ 10000 → (L_X9_run_45 fu h ti k hh).1 = (L_X10_run_42 fu κ σ β ti k κ1 σ1 β1).1 ∧ (L_X10_run_42 fu κ σ β ti k κ1 σ1 β1).2.1 = κ1 ∧ (L_X10_run_42 fu κ σ β ti k κ1 σ1 β1).2.2.2 = β1 ∧ SR M ((L_X9_run_45 fu h ti k hh).2 2) ((L_X9_run_45 fu h ti k hh).2 3) ((L_X9_run_45 fu h ti k hh).2 4) ((L_X9_run_45 fu h ti k hh).2 5) (L_X10_run_42 fu κ σ β ti k κ1 σ1 β1).2.2.1 ∧ ∀ g, g ≠ 2 → (L_X9_run_45 fu h ti k hh).2 g = hh g := by
  intro fu
  induction fu with
  | zero => intro _ _ _ _ _ _ h; exact absurd h (Nat.not_lt_zero _)
  | succ fu ih =>
    intro k K hh σ1 hk hK hf hS ht
    unfold L_X9_run_45 L_X10_run_42
    by_cases c : ti ≤ k
    · rw [if_pos c, if_pos c]
      exact ⟨hS.1.1 4 (by decide) (by decide) (by simp), rfl, rfl, hS, fun g _ => rfl⟩
    · rw [if_neg c, if_neg c]
      have c2 := nle c
      rw [eT, hk] at c2
      obtain ⟨s1, s2⟩ := SR_tick hS (by omega)
      dsimp only
      generalize S_X10_tick σ1 = σ2 at *
      generalize S_X4_tick (hh 2) (hh 3) (hh 4) = ρ2 at *
      obtain ⟨a, b, d, e, f⟩ := ih (k + 1) (K + 1) (va_up hh 2 ρ2) σ2 (k_up hk (by omega)) (by omega) (by omega) (by
        rw [va_up_self, va_up_ne _ _ (show 3 ≠ 2 by decide), va_up_ne _ _ (show 4 ≠ 2 by decide), va_up_ne _ _ (show 5 ≠ 2 by decide)]
        exact s1) (by rw [s2]; omega)
      exact ⟨a, b, d, e, fun g hg => (f g hg).trans (va_up_ne _ _ hg)⟩
