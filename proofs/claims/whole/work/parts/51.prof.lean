theorem WI_congr {σ σ' : Nat → Int32} (h : ∀ j, j < 32 → σ' j = σ j) (hW : WI σ) : WI σ' := by
  refine ⟨?_, ?_⟩
  · rw [h 21 (by decide), h 18 (by decide), h _ (by omega)]
    exact hW.1
  · rw [h 22 (by decide), h 26 (by decide), h 27 (by decide), h 28 (by decide), h 29 (by decide), h 30 (by decide), h 31 (by decide)]
    exact hW.2
theorem WS_far {M : Nat} {σ σ' : Nat → Int32} (h : ∀ j, j < 32 ∨ 62 ≤ j → σ' j = σ j) (hW : WS M σ) : WS M σ' := by
  obtain ⟨w1, w2, w3, w4, w5⟩ := hW
  unfold WS
  rw [h 0 (by decide), h 1 (by decide), h 6 (by decide), h 18 (by decide), h 62 (by decide), h 63 (by decide)]
  exact ⟨w1, w2, w3, w4, fun j hj => by rw [h _ (by omega)]; exact w5 j hj⟩
/-- a state with another profile -/
theorem SR_prof {M : Nat} {ρ π π' μ ν σ σ' : Nat → Int32} (h : SR M ρ π μ ν σ) (hs : ∀ j, j < 32 ∨ 49 ≤ j → σ' j = σ j) (hp : ∃ m, GT (fun j => σ' (32 + j)) 8 m 400 0 3000 ∧ ∀ j, j ≤ 2 * m → π' j = σ' (32 + j)) : SR M ρ π' μ ν σ' := by
  obtain ⟨⟨hR, hW, hK, _, ⟨m2, g2, r2⟩⟩, hL, hw⟩ := h
  exact ⟨⟨fun k a b c => by rw [hs k (Or.inl a)]; rw [hs 1 (by decide)] at c; exact hR k a b c, WI_congr (fun j hj => hs j (Or.inl hj)) hW, TK_congr (fun k hk => hs k (by omega)) hK, hp, ⟨m2, GT_agree (fun j _ => hs (49 + j) (by omega)) g2, fun j hj => by rw [hs (49 + j) (by omega)]; exact r2 j hj⟩⟩, fun j hj => by rw [hs (62 + j) (by omega)]; exact hL j hj, WS_far (fun j hj => hs j (by omega)) hw⟩
/-- a state with other losses -/
theorem SR_loss {M : Nat} {ρ π μ μ' ν σ σ' : Nat → Int32} (h : SR M ρ π μ ν σ) (hs : ∀ j, j < 49 ∨ 62 ≤ j → σ' j = σ j) (hp : ∃ m, GT (fun j => σ' (49 + j)) 6 m 3000 0 1000 ∧ ∀ j, j ≤ 2 * m → μ' j = σ' (49 + j)) : SR M ρ π μ' ν σ' := by
  obtain ⟨⟨hR, hW, hK, ⟨m, g, r⟩, _⟩, hL, hw⟩ := h
  have b := g.2.1
  exact ⟨⟨fun k a b c => by rw [hs k (by omega)]; rw [hs 1 (by decide)] at c; exact hR k a b c, WI_congr (fun j hj => hs j (by omega)) hW, TK_congr (fun k hk => hs k (by omega)) hK, ⟨m, GT_agree (fun j hj => hs (32 + j) (by omega)) g, fun j hj => by rw [hs (32 + j) (by omega)]; exact r j hj⟩, hp⟩, fun j hj => by rw [hs (62 + j) (by omega)]; exact hL j hj, WS_far (fun j hj => hs j (by omega)) hw⟩
