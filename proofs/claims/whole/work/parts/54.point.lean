theorem setPoint_eq {N : Nat} {h : Hp} {κ σ β τ : Nat → Int32} (hN : N ≤ 100000) (hC : CI N h κ σ β τ) (ti te : Int32) : (S_X9_setPoint h ti te).1 = (S_X10_setPoint κ σ β ti te).1 ∧ CI (N + 1) (S_X9_setPoint h ti te).2 (S_X10_setPoint κ σ β ti te).2.1 (S_X10_setPoint κ σ β ti te).2.2.1 (S_X10_setPoint κ σ β ti te).2.2.2 τ := by
  obtain ⟨R, A, eR, eA, rl, q⟩ := CI_pack hN hC
  unfold S_X9_setPoint S_X10_setPoint
  rw [in_eq, in_eq, eR]
  dsimp only
  rw [eA]
  clear eR eA
  by_cases c0 : S_X10_in ti 0 400 = 0
  · rw [if_pos c0, if_pos c0]
    exact ⟨rfl, CI_none rfl rfl hC⟩
  rw [if_neg c0, if_neg c0]
  by_cases c1 : S_X10_in te 0 3000 = 0
  · rw [if_pos c1, if_pos c1]
    exact ⟨rfl, CI_none rfl rfl hC⟩
  rw [if_neg c1, if_neg c1]
  obtain ⟨m, g, r⟩ := hC.1.1.2.2.2.1
  obtain ⟨p1, p2⟩ := prof_set g r (in_iff c0) (in_iff c1)
  by_cases c : S_X6_hasRoomFor (h 3) 8 ti = 0
  · obtain ⟨a, b⟩ := p1.mp c
    rw [if_pos c, if_pos a, if_pos b]
    exact ⟨rfl, CI_none rfl rfl hC⟩
  rw [if_neg c]
  obtain ⟨f, G⟩ := p2 c
  have main : S_X6_set (R 3) 8 ti te 0 = S_X10_insert_P σ ti te 32 ∧ CI (N + 1) (va_up R 3 (S_X6_set (R 3) 8 ti te)) A.1 (S_X10_insert_P σ ti te) A.2 τ := by
    rw [rl 3 (by decide)]
    generalize S_X6_set (h 3) 8 ti te = π' at *
    generalize S_X10_insert_P σ ti te = σ' at *
    refine ⟨?_, q _ _ ?_ (fun k hk => va_up_ne _ _ (by omega))⟩
    · obtain ⟨m', _, r'⟩ := G
      exact r' 0 (by omega)
    · rw [va_up_self, va_up_ne _ _ (show 2 ≠ 3 by decide), va_up_ne _ _ (show 4 ≠ 3 by decide), va_up_ne _ _ (show 5 ≠ 3 by decide), rl 2 (by decide), rl 4 (by decide), rl 5 (by decide)]
      exact SR_prof (SR_mono hC.1) f G
  by_cases a : S_X10_isAt σ 33 (σ 32) (S_X10_place σ 33 (σ 32) ti) ti = 0
  · rw [if_pos a, if_neg (fun b => c (p1.mpr ⟨a, b⟩))]
    exact main
  · rw [if_neg a]
    exact main
