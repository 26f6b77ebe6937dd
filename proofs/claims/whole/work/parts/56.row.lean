theorem setRow_eq {N : Nat} {h : Hp} {κ σ β τ : Nat → Int32} (hN : N ≤ 100000) (hC : CI N h κ σ β τ) (te ra : Int32) : (S_X9_setRow h te ra).1 = (S_X10_setRow κ σ β te ra).1 ∧ CI (N + 1) (S_X9_setRow h te ra).2 (S_X10_setRow κ σ β te ra).2.1 (S_X10_setRow κ σ β te ra).2.2.1 (S_X10_setRow κ σ β te ra).2.2.2 τ := by
  obtain ⟨R, A, eR, eA, rl, q⟩ := CI_pack hN hC
  unfold S_X9_setRow S_X10_setRow
  rw [in_eq, in_eq, eR]
  dsimp only
  rw [eA]
  clear eR eA
  by_cases c0 : S_X10_in te 0 3000 = 0
  · rw [if_pos c0, if_pos c0]
    exact ⟨rfl, CI_none rfl rfl hC⟩
  rw [if_neg c0, if_neg c0]
  by_cases c1 : S_X10_in ra (-1) 999 = 0
  · rw [if_pos c1, if_pos c1]
    exact ⟨rfl, CI_none rfl rfl hC⟩
  rw [if_neg c1, if_neg c1]
  have b0 := in_iff c0
  have b1 := in_iff c1
  have z0 : (0 : Int32).toInt = 0 := rfl
  have z1 : (-1 : Int32).toInt = -1 := rfl
  have z9 : (999 : Int32).toInt = 999 := rfl
  obtain ⟨m, g, r⟩ := hC.1.1.2.2.2.2
  obtain ⟨o1, o2⟩ := loss_out (ti := te) g r
  have go : ∀ (μ' σ' : Nat → Int32), (∀ j, j < 49 ∨ 62 ≤ j → σ' j = σ j) → (∃ m, GT (fun j => σ' (49 + j)) 6 m 3000 0 1000 ∧ ∀ j, j ≤ 2 * m → μ' j = σ' (49 + j)) → μ' 0 = σ' 49 ∧ CI (N + 1) (va_up R 4 μ') A.1 σ' A.2 τ := fun μ' σ' f G => by
    refine ⟨?_, q _ _ ?_ (fun k hk => va_up_ne _ _ (by omega))⟩
    · obtain ⟨m', _, r'⟩ := G
      exact r' 0 (by omega)
    · rw [va_up_self, va_up_ne _ _ (show 2 ≠ 4 by decide), va_up_ne _ _ (show 3 ≠ 4 by decide), va_up_ne _ _ (show 5 ≠ 4 by decide), rl 2 (by decide), rl 3 (by decide), rl 5 (by decide)]
      exact SR_loss (SR_mono hC.1) f G
  by_cases cm : ra = -1
  · have nr : ¬ 0 ≤ ra := fun a => by
      have := Int32.le_iff_toInt_le.mp a
      rw [cm, z0, z1] at this
      omega
    rw [if_pos cm, if_neg (show ¬ (1 : Int32) = 0 by decide), if_neg nr]
    by_cases c : S_X6_has (h 4) 6 te = 0
    · rw [if_pos c, if_pos (o1.mp c)]
      exact ⟨rfl, CI_none rfl rfl hC⟩
    obtain ⟨v, f, G⟩ := o2 c
    rw [if_neg c, if_neg (fun a => c (o1.mpr a)), rl 4 (by decide)]
    generalize S_X6_remove (h 4) 6 te = μ' at *
    generalize S_X10_place σ 50 (σ 49) te = Q at *
    generalize S_X10_takeOut_R σ Q = σ' at *
    exact go μ' σ' f G
  · have nr : 0 ≤ ra := Int32.le_iff_toInt_le.mpr (by
      have : ra.toInt ≠ -1 := fun e => cm (Int32.toInt_inj.mp e)
      rw [z1] at b1
      omega)
    rw [if_neg cm, if_pos (rfl : (0 : Int32) = 0), if_pos nr]
    have nr2 := Int32.le_iff_toInt_le.mp nr
    obtain ⟨p1, p2⟩ := loss_set (te := ra) g r b0 (by omega)
    by_cases c : S_X6_hasRoomFor (h 4) 6 te = 0
    · obtain ⟨a, b⟩ := p1.mp c
      rw [if_pos c, if_pos a, if_pos b]
      exact ⟨rfl, CI_none rfl rfl hC⟩
    rw [if_neg c]
    obtain ⟨f, G⟩ := p2 c
    have main := go _ _ f G
    rw [rl 4 (by decide)]
    by_cases a : S_X10_isAt σ 50 (σ 49) (S_X10_place σ 50 (σ 49) te) te = 0
    · rw [if_pos a, if_neg (fun b => c (p1.mpr ⟨a, b⟩))]
      exact main
    · rw [if_neg a]
      exact main
