theorem steer_eq {ρ π σ : Nat → Int32} (h : RA ρ σ) (hon : σ 9 = 0 ∨ σ 9 = 1) (h0 : π 0 = σ 32) (hv : ¬ σ 32 = 0 → S_X6_valueOnLine π 8 (σ 18) = S_X10_targetAt σ (σ 18) ∧ ¬ S_X10_targetAt σ (σ 18) = (-100009)) (hz : ∀ t, σ 32 = 0 → S_X10_targetAt σ t = (-100009)) : RA (S_X4_steer ρ π) (S_X10_control σ) := by
  unfold S_X4_steer S_X10_control
  have e9 : ρ 9 = σ 9 := h 9 (by decide) (by decide) (by simp)
  rcases hon with o | o
  · rw [if_neg (show ¬ ρ 9 = 1 by rw [e9, o]; decide), if_pos o]
    exact h
  · rw [if_pos (show ρ 9 = 1 by rw [e9, o]), if_neg (show ¬ σ 9 = 0 by rw [o]; decide)]
    by_cases c : σ 32 = 0
    · rw [if_pos (show π 0 = 0 by rw [h0, c]), if_pos (hz (σ 18) c)]
      exact h
    · obtain ⟨a, b⟩ := hv c
      rw [if_neg (show ¬ π 0 = 0 by rw [h0]; exact c), if_neg b]
      rw [h 18 (by decide) (by decide) (by simp), a, h 4 (by decide) (by decide) (by simp)]
      generalize S_X10_targetAt σ (σ 18) = t
      have h13 : RA (va_up ρ 13 (S_X9_clamp (ρ 13 + (t - σ 4)) (-20000) 20000)) (va_up σ 13 (S_X10_clamp (σ 13 + (t - σ 4)) (-20000) 20000)) := RA_up h (by rw [h 13 (by decide) (by decide) (by simp), clamp_eq (by decide)])
      refine RA_up h13 ?_
      rw [clamp_eq (by decide), fd_dn (b := 100) (by decide), fd_dn (b := 1000) (by decide), h13 12 (by decide) (by decide) (by simp), h13 10 (by decide) (by decide) (by simp), h13 11 (by decide) (by decide) (by simp), h13 13 (by decide) (by decide) (by simp)]
theorem control_fr {σ : Nat → Int32} {k : Nat} (h1 : k ≠ 13) (h2 : k ≠ 7) : S_X10_control σ k = σ k := by
  unfold S_X10_control
  generalize S_X10_targetAt σ (σ 18) = t
  repeat' split
  all_goals first | rfl | (rw [va_up_ne _ _ h2, va_up_ne _ _ h1])
theorem control_pw {σ : Nat → Int32} (h : 0 ≤ (σ 7).toInt ∧ (σ 7).toInt ≤ 100) : 0 ≤ (S_X10_control σ 7).toInt ∧ (S_X10_control σ 7).toInt ≤ 100 := by
  unfold S_X10_control
  generalize S_X10_targetAt σ (σ 18) = t
  by_cases c : σ 9 = 0
  · rw [if_pos c]; exact h
  · rw [if_neg c]
    by_cases d : t = (-100009)
    · rw [if_pos d]; exact h
    · rw [if_neg d, va_up_self]
      exact clamp_bd (a := 0) (b := 100) (by decide)
theorem detect_eq {ρ σ : Nat → Int32} (h : RA ρ σ) (hw : σ 22 = σ 26 + σ 27 + σ 28 + σ 29 + σ 30 + σ 31) (hph : ¬ σ 1 = 0) : RA (S_X0_lookForCrack ρ (ρ 15)) (S_X10_detect σ) := by
  unfold S_X0_lookForCrack S_X10_detect
  have e15 : ρ 15 = σ 15 := h 15 (by decide) (by decide) (by simp)
  have e23 : ρ 23 = σ 23 := h 23 (by decide) (by decide) ⟨by decide, fun _ => hph⟩
  have e24 : ρ 24 = σ 24 := h 24 (by decide) (by decide) ⟨by decide, fun _ => hph⟩
  have e18 : ρ 18 = σ 18 := h 18 (by decide) (by decide) (by simp)
  have ew : S_X0_window ρ = σ 22 := by
    rw [window_eq, hw, h 26 (by decide) (by decide) (by simp), h 27 (by decide) (by decide) (by simp), h 28 (by decide) (by decide) (by simp), h 29 (by decide) (by decide) (by simp), h 30 (by decide) (by decide) (by simp), h 31 (by decide) (by decide) (by simp)]
  rw [ew, e15, e23, e24, e18]
  by_cases c : σ 22 < σ 15
  · rw [if_pos c, if_pos c]
    by_cases d : σ 23 = (-100009)
    · rw [if_pos d, if_pos rfl, if_pos d, va_up_id2 d]
      exact h
    · rw [if_neg d, if_neg d]
      by_cases f : σ 24 = (-100009)
      · rw [if_pos f, if_pos rfl, if_pos f]
        exact RA_up h rfl
      · rw [if_neg f, if_neg f]
        exact h
  · rw [if_neg c, if_neg c]
    by_cases d : σ 23 = (-100009)
    · rw [if_pos d, if_neg (by decide), if_pos d]
      exact RA_up h rfl
    · rw [if_neg d, if_neg d]
      by_cases f : σ 24 = (-100009)
      · rw [if_pos f, if_neg (by decide), if_pos f]
        exact h
      · rw [if_neg f, if_neg f]
        exact h
theorem detect_fr {σ : Nat → Int32} {k : Nat} (h1 : k ≠ 23) (h2 : k ≠ 24) : S_X10_detect σ k = σ k := by
  unfold S_X10_detect
  repeat' split
  all_goals first | rfl | (rw [va_up_ne _ _ h1]) | (rw [va_up_ne _ _ h2])
/-- how many pop in a tick -/
theorem pops_eq {b ct p : Int32} (hb : -1000 ≤ b.toInt ∧ b.toInt ≤ 5000) (hc : 0 ≤ ct.toInt ∧ ct.toInt ≤ 3000) (hp : 0 ≤ p.toInt ∧ p.toInt ≤ 1000) : (if b < ct then (0 : Int32) else S_J9_min_7cf53 (S_J9_floorDiv_7cf53 (b - ct) 2 + 1) (1000 - p)) = (if (if ct ≤ b then (b - ct) / 2 + 1 else 0) ≤ 1000 - p then (if ct ≤ b then (b - ct) / 2 + 1 else 0) else 1000 - p) := by
  have e0 : (1000 - p).toInt = 1000 - p.toInt := tsu (a := 1000) (by show -2147483648 ≤ 1000 - p.toInt; omega) (by show 1000 - p.toInt < 2147483648; omega)
  by_cases c : b < ct
  · rw [if_pos c, if_neg (Int32.not_le.mpr c), if_pos (Int32.le_iff_toInt_le.mpr (by rw [e0]; show (0 : Int) ≤ _; omega))]
  · rw [if_neg c, if_pos (Int32.not_lt.mp c)]
    have c2 := nlt c
    have e1 : (b - ct).toInt = b.toInt - ct.toInt := tsu (by omega) (by omega)
    have e2 : S_J9_floorDiv_7cf53 (b - ct) 2 = (b - ct) / 2 := by
      apply Int32.toInt_inj.mp
      rw [fd32 (b := 2) (by decide), dq32 (b := 2) (by decide), e1]
      exact (Int.tdiv_eq_ediv_of_nonneg (by omega)).symm
    rw [e2]
    unfold S_J9_min_7cf53
    generalize (b - ct) / 2 + 1 = x
    by_cases d : x ≤ 1000 - p
    · rw [if_pos d, if_neg (Int32.not_lt.mpr d)]
    · rw [if_neg d, if_pos (Int32.not_le.mp d)]
theorem age_ix {a : Int32} (h : 0 ≤ a.toInt ∧ a.toInt ≤ 1000000) : (S_J9_floorMod_7cf53 a 6).toInt = ((a.toInt % 6).toNat : Int) ∧ (a.toInt % 6).toNat < 6 ∧ Int32.toNatClampNeg (26 + (a - a / 6 * 6)) = 26 + (a.toInt % 6).toNat := by
  have e1 := fm32 (a := a) (b := 6) (by decide)
  have e6 : (6 : Int32).toInt = 6 := rfl
  rw [e6] at e1
  have e2 := dr32 (a := a) (b := 6) (by decide)
  rw [e6, Int.tmod_eq_emod_of_nonneg h.1] at e2
  have b1 : 0 ≤ a.toInt % 6 := by omega
  have b2 : a.toInt % 6 < 6 := by omega
  refine ⟨by rw [e1]; omega, by omega, ?_⟩
  refine i_eq ?_
  rw [ta (a := 26) (by rw [e2]; show -2147483648 ≤ 26 + a.toInt % 6; omega) (by rw [e2]; show 26 + a.toInt % 6 < 2147483648; omega), e2]
  show 26 + a.toInt % 6 = _
  omega
