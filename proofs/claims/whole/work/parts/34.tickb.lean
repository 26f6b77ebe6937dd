/-- the roaster's row against the reference's -/
def RA (ρ σ : Nat → Int32) : Prop := ∀ k, k < 32 → k ≠ 21 → (k ≠ 22 ∧ (k = 23 ∨ k = 24 → ¬ σ 1 = 0)) → ρ k = σ k
def WI (σ : Nat → Int32) : Prop := σ 21 = σ (26 + ((σ 18).toInt % 6).toNat) ∧ σ 22 = σ 26 + σ 27 + σ 28 + σ 29 + σ 30 + σ 31
theorem RA_up {ρ σ : Nat → Int32} (h : RA ρ σ) {k : Nat} {v w : Int32} (e : v = w) (h1 : k = 1 → ¬ w = 0 → ¬ σ 1 = 0 := by intro e; exact absurd e (by decide)) : RA (va_up ρ k v) (va_up σ k w) := fun j j1 j2 j3 => by
  subst e
  by_cases c : j = k
  · rw [c, va_up_self, va_up_self]
  · rw [va_up_ne _ _ c, va_up_ne _ _ c]
    refine h j j1 j2 ⟨j3.1, fun q => ?_⟩
    have b := j3.2 q
    by_cases d : k = 1
    · rw [d, va_up_self] at b
      exact h1 d b
    · rw [va_up_ne _ _ (Ne.symm d)] at b
      exact b
theorem RA.at {ρ σ : Nat → Int32} (h : RA ρ σ) {k : Nat} (h1 : k < 32) (h2 : k ≠ 21) (h3 : k ≠ 22 ∧ k ≠ 23 ∧ k ≠ 24) : ρ k = σ k := h k h1 h2 ⟨h3.1, fun q => absurd q (by omega)⟩
theorem clamp_eq {x a b : Int32} (h : a ≤ b) : S_X9_clamp x a b = S_X10_clamp x a b := by
  unfold S_X9_clamp S_X10_clamp S_J9_max_7cf53 S_J9_min_7cf53
  have h0 := Int32.le_iff_toInt_le.mp h
  repeat' split
  all_goals first | rfl | skip
  all_goals apply Int32.toInt_inj.mp
  all_goals simp only [Int32.le_iff_toInt_le, Int32.not_le, Int32.lt_iff_toInt_lt] at *
  all_goals omega
theorem clamp_bd {x a b : Int32} (h : a ≤ b) : a.toInt ≤ (S_X10_clamp x a b).toInt ∧ (S_X10_clamp x a b).toInt ≤ b.toInt := by
  unfold S_X10_clamp
  have h0 := Int32.le_iff_toInt_le.mp h
  repeat' split
  all_goals simp only [Int32.le_iff_toInt_le, Int32.not_le, Int32.lt_iff_toInt_lt] at *
  all_goals omega
theorem window_eq (ρ : Nat → Int32) : S_X0_window ρ = ρ 26 + ρ 27 + ρ 28 + ρ 29 + ρ 30 + ρ 31 := by
  unfold S_X0_window
  simp only [L_X0_window_4]
  rw [if_neg (by decide), if_neg (by decide), if_neg (by decide), if_neg (by decide), if_neg (by decide), if_neg (by decide), if_pos (by decide)]
  rw [S_at_in (K := 0) rfl (by decide) (by decide), S_at_in (K := 1) rfl (by decide) (by decide), S_at_in (K := 2) rfl (by decide) (by decide), S_at_in (K := 3) rfl (by decide) (by decide), S_at_in (K := 4) rfl (by decide) (by decide), S_at_in (K := 5) rfl (by decide) (by decide), Int32.zero_add]
