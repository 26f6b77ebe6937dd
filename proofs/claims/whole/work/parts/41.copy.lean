theorem S_copy_1 {a b : Nat → Int32} {o n k : Nat} : S_copy a b o 1 n k = if o ≤ k ∧ k < o + n then a k else b k := by
  unfold S_copy
  by_cases c : o ≤ k ∧ k < o + n
  · rw [if_pos c, if_pos ⟨c.1, Nat.mod_one _, by rw [Nat.div_one]; omega⟩]
  · rw [if_neg c, if_neg (fun q => c ⟨q.1, by have := q.2.2; rw [Nat.div_one] at this; omega⟩)]
theorem roaster_copy {a b : Nat → Int32} {k : Nat} (h : k < 32) (h1 : k ≠ 21) (h2 : k ≠ 22) : S_X4_copyFrom a b k = b k := by
  have hk : k = 0 ∨ k = 1 ∨ k = 2 ∨ k = 3 ∨ k = 4 ∨ k = 5 ∨ k = 6 ∨ k = 7 ∨ k = 8 ∨ k = 9 ∨ k = 10 ∨ k = 11 ∨ k = 12 ∨ k = 13 ∨ k = 14 ∨ k = 15 ∨ k = 16 ∨ k = 17 ∨ k = 18 ∨ k = 19 ∨ k = 20 ∨ k = 23 ∨ k = 24 ∨ k = 25 ∨ (26 ≤ k ∧ k < 32) := by omega
  unfold S_X4_copyFrom S_X0_copyFrom S_X5_copyFrom
  simp only [va_up, S_copy_1]
  rcases hk with rfl | rfl | rfl | rfl | rfl | rfl | rfl | rfl | rfl | rfl | rfl | rfl | rfl | rfl | rfl | rfl | rfl | rfl | rfl | rfl | rfl | rfl | rfl | rfl | hk
  all_goals first | rfl | skip
  repeat rw [if_neg (by omega)]
  rw [if_pos (by omega)]
theorem S_copy_2 {a b : Nat → Int32} {o n k : Nat} : S_copy a b o 2 n k = if o ≤ k ∧ (k - o) % 2 = 0 ∧ (k - o) / 2 < n then a k else b k := rfl
theorem table_copy {a b : Nat → Int32} {n m k : Nat} (hn : n ≤ 1000) (hm : (b 0).toInt = m) (hmn : m ≤ n) (hk : k ≤ 2 * m) : S_X6_copyFrom a b n k = b k := by
  unfold S_X6_copyFrom
  simp only [va_up, S_copy_2]
  by_cases c : k = 0
  · rw [if_pos c]
    subst c
    unfold S_J9_min_7cf53
    rw [if_neg]
    intro d
    have := Int32.lt_iff_toInt_lt.mp d
    rw [n_of hn, hm] at this
    omega
  · rw [if_neg c]
    by_cases d : 2 ≤ k ∧ (k - 2) % 2 = 0 ∧ (k - 2) / 2 < n
    · rw [if_pos d]
    · rw [if_neg d, if_pos (by omega)]
theorem log_copy {a b : Nat → Int32} {k : Nat} (hk : k < 50) : S_X2_copyFrom a b k = b k := by
  unfold S_X2_copyFrom
  simp only [va_up, S_copy_1]
  by_cases c : k = 0
  · repeat' split
    all_goals first | (subst c; rfl) | omega
  · by_cases d : k = 1
    · repeat' split
      all_goals first | (subst d; rfl) | omega
    · repeat' split
      all_goals first | rfl | omega
theorem CR_congr {ρ π μ σ σ' : Nat → Int32} (h : ∀ j, j < 112 → σ' j = σ j) (hC : CR ρ π μ σ) : CR ρ π μ σ' := by
  obtain ⟨hR, hW, hK, ⟨m, g, r⟩, ⟨m2, g2, r2⟩⟩ := hC
  have b1 := g.2.1
  have b2 := g2.2.1
  refine ⟨fun k a b c => by rw [h k (by omega)]; rw [h 1 (by decide)] at c; exact hR k a b c, ⟨?_, ?_⟩, TK_congr (fun k hk => h k (by omega)) hK, ⟨m, GT_agree (fun j hj => h (32 + j) (by omega)) g, fun j hj => by rw [h (32 + j) (by omega)]; exact r j hj⟩, ⟨m2, GT_agree (fun j hj => h (49 + j) (by omega)) g2, fun j hj => by rw [h (49 + j) (by omega)]; exact r2 j hj⟩⟩
  · rw [h 21 (by decide), h 18 (by decide), h _ (by omega)]
    exact hW.1
  · rw [h 22 (by decide), h 26 (by decide), h 27 (by decide), h 28 (by decide), h 29 (by decide), h 30 (by decide), h 31 (by decide)]
    exact hW.2
/-- time, phase and log, on the reference's side -/
def WS (M : Nat) (σ : Nat → Int32) : Prop := (0 ≤ (σ 18).toInt ∧ (σ 18).toInt ≤ (σ 0).toInt ∧ (σ 0).toInt ≤ 10000 ∧ 0 ≤ (σ 6).toInt ∧ (σ 6).toInt ≤ 5) ∧ (σ 1 = 0 ∨ σ 1 = 1 ∨ σ 1 = 2) ∧ (0 ≤ (σ 63).toInt ∧ (σ 63).toInt ≤ 8) ∧ ((σ 63).toInt ≤ (σ 62).toInt ∧ (σ 62).toInt ≤ M) ∧ ∀ j : Nat, (j : Int) < (σ 63).toInt → (σ (64 + 6 * j)).toInt = (σ 62).toInt - j
theorem WS_congr {M : Nat} {σ σ' : Nat → Int32} (h : ∀ j, j < 112 → σ' j = σ j) (hW : WS M σ) : WS M σ' := by
  obtain ⟨w1, w2, w3, w4, w5⟩ := hW
  unfold WS
  rw [h 0 (by decide), h 1 (by decide), h 6 (by decide), h 18 (by decide), h 62 (by decide), h 63 (by decide)]
  exact ⟨w1, w2, w3, w4, fun j hj => by rw [h _ (by omega)]; exact w5 j hj⟩
theorem WS_mono {M : Nat} {σ : Nat → Int32} (hW : WS M σ) : WS (M + 1) σ := by
  obtain ⟨w1, w2, w3, w4, w5⟩ := hW
  exact ⟨w1, w2, w3, ⟨w4.1, by omega⟩, w5⟩
/-- a whole state alike -/
def SR (M : Nat) (ρ π μ ν σ : Nat → Int32) : Prop := CR ρ π μ σ ∧ (∀ j, j < 50 → ν j = σ (62 + j)) ∧ WS M σ
theorem SR_congr {M : Nat} {ρ π μ ν σ σ' : Nat → Int32} (h : ∀ j, j < 112 → σ' j = σ j) (hS : SR M ρ π μ ν σ) : SR M ρ π μ ν σ' := ⟨CR_congr h hS.1, fun j hj => by rw [h (62 + j) (by omega)]; exact hS.2.1 j hj, WS_congr h hS.2.2⟩
theorem SR_mono {M : Nat} {ρ π μ ν σ : Nat → Int32} (hS : SR M ρ π μ ν σ) : SR (M + 1) ρ π μ ν σ := ⟨hS.1, hS.2.1, WS_mono hS.2.2⟩
theorem CR_roaster {a ρ π μ σ : Nat → Int32} (h : CR ρ π μ σ) (ha : ∀ k, k < 32 → k ≠ 21 → k ≠ 22 → a k = ρ k) : CR a π μ σ := ⟨fun k h1 h2 h3 => (ha k h1 h2 h3.1).trans (h.1 k h1 h2 h3), h.2⟩
theorem SR_copy {M : Nat} {a1 a2 a3 a4 b1 b2 b3 b4 σ : Nat → Int32} (h : SR M b1 b2 b3 b4 σ) : SR M (S_X7_copyFrom a1 a2 a3 a4 b1 b2 b3 b4 8 6).1 (S_X7_copyFrom a1 a2 a3 a4 b1 b2 b3 b4 8 6).2.1 (S_X7_copyFrom a1 a2 a3 a4 b1 b2 b3 b4 8 6).2.2.1 (S_X7_copyFrom a1 a2 a3 a4 b1 b2 b3 b4 8 6).2.2.2 σ := by
  obtain ⟨⟨hR, hW, hK, ⟨m, g, r⟩, ⟨m2, g2, r2⟩⟩, hL, hw⟩ := h
  have s1 : (b2 0).toInt = m := by rw [r 0 (by omega)]; exact g.1
  have s2 : (b3 0).toInt = m2 := by rw [r2 0 (by omega)]; exact g2.1
  show SR M (S_X4_copyFrom a1 b1) (S_X6_copyFrom a2 b2 8) (S_X6_copyFrom a3 b3 6) (S_X2_copyFrom a4 b4) σ
  refine ⟨⟨fun k h1 h2 h3 => by rw [roaster_copy h1 h2 h3.1]; exact hR k h1 h2 h3, hW, hK, ⟨m, g, fun j hj => by rw [table_copy (by decide) s1 g.2.1 hj]; exact r j hj⟩, ⟨m2, g2, fun j hj => by rw [table_copy (by decide) s2 g2.2.1 hj]; exact r2 j hj⟩⟩, fun j hj => by rw [log_copy hj]; exact hL j hj, hw⟩
