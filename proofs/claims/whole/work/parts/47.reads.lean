theorem CI.kap {N : Nat} {h : Hp} {κ σ β τ : Nat → Int32} (hC : CI N h κ σ β τ) : CI (N + 1) h (va_up κ 0 0) σ β τ := CI_none rfl rfl hC
theorem target_eq {N : Nat} {h : Hp} {κ σ β τ : Nat → Int32} (hC : CI N h κ σ β τ) (ti : Int32) : S_X9_target h ti = (S_X10_target κ σ ti).1 ∧ CI (N + 1) h (S_X10_target κ σ ti).2 σ β τ := by
  refine ⟨?_, hC.kap⟩
  show _ = (if S_X10_in ti 0 1000 = 0 then (-100001) else S_X10_targetAt σ ti)
  unfold S_X9_target
  rw [in_eq]
  by_cases c : S_X10_in ti 0 1000 = 0
  · rw [if_pos c, if_pos c]
  · rw [if_neg c, if_neg c]
    obtain ⟨m, g, r⟩ := hC.1.1.2.2.2.1
    have e0 : h 3 0 = σ 32 := r 0 (by omega)
    rw [e0]
    by_cases d : σ 32 = 0
    · rw [if_pos d, target_none d]
    · rw [if_neg d]
      have b := in_iff c
      have z : (0 : Int32).toInt = 0 := rfl
      have z2 : (1000 : Int32).toInt = 1000 := rfl
      exact (CR_line hC.1.1 (fun _ _ => rfl) d (by omega)).1
theorem rate_eq {N : Nat} {h : Hp} {κ σ β τ : Nat → Int32} (hC : CI N h κ σ β τ) (te : Int32) : S_X9_rate h te = (S_X10_rate κ σ te).1 ∧ CI (N + 1) h (S_X10_rate κ σ te).2 σ β τ := by
  refine ⟨?_, hC.kap⟩
  show _ = (if S_X10_in te 0 3000 = 0 then (-100001) else S_X10_rateAt σ te)
  unfold S_X9_rate
  rw [in_eq]
  by_cases c : S_X10_in te 0 3000 = 0
  · rw [if_pos c, if_pos c]
  · rw [if_neg c, if_neg c]
    have b := in_iff c
    have z : (0 : Int32).toInt = 0 := rfl
    have z2 : (3000 : Int32).toInt = 3000 := rfl
    exact CR_rate hC.1.1 (fun _ _ => rfl) (by omega) (by omega)
theorem count_eq {N : Nat} {h : Hp} {κ σ β τ : Nat → Int32} (hC : CI N h κ σ β τ) (wh : Int32) : S_X9_count h wh = (S_X10_count κ σ wh).1 ∧ CI (N + 1) h (S_X10_count κ σ wh).2 σ β τ := by
  have e3 : h 3 0 = σ 32 := by
    obtain ⟨m, g, r⟩ := hC.1.1.2.2.2.1
    exact r 0 (by omega)
  have e4 : h 4 0 = σ 49 := by
    obtain ⟨m, g, r⟩ := hC.1.1.2.2.2.2
    exact r 0 (by omega)
  have e5 : h 5 1 = σ 63 := hC.1.2.1 1 (by decide)
  have e10 : h 10 1 = va_up κ 0 0 1 := hC.2.1.1
  have e7 : h 7 0 = va_up κ 0 0 2 := by
    obtain ⟨n, _, _, q, _⟩ := hC.2.2
    exact q
  have r := fun k (a : k < 21) => hC.rows (k := k) (by omega) (by omega) (by omega)
  have hk := hC.kap
  unfold S_X9_count S_X10_count
  rw [e3, e4, e5, e10, e7, r 0 (by decide), r 1 (by decide), r 2 (by decide), r 4 (by decide), r 3 (by decide), r 7 (by decide), r 5 (by decide), r 13 (by decide)]
  clear e3 e4 e5 e10 e7 r hC
  generalize va_up κ 0 0 = κ' at *
  by_cases c0 : wh = 0
  · rw [if_pos c0, if_pos c0, c0]; exact ⟨rfl, hk⟩
  rw [if_neg c0, if_neg c0]
  by_cases c1 : wh = 1
  · rw [if_pos c1, if_pos c1, c1]; exact ⟨rfl, hk⟩
  rw [if_neg c1, if_neg c1]
  by_cases c2 : wh = 2
  · rw [if_pos c2, if_pos c2, c2]; exact ⟨rfl, hk⟩
  rw [if_neg c2, if_neg c2]
  by_cases c3 : wh = 3
  · rw [if_pos c3, if_pos c3]; exact ⟨rfl, hk⟩
  rw [if_neg c3, if_neg c3]
  by_cases c4 : wh = 4
  · rw [if_pos c4, if_pos c4]; exact ⟨rfl, hk⟩
  rw [if_neg c4, if_neg c4]
  by_cases c5 : wh = 5
  · rw [if_pos c5, if_pos c5]; exact ⟨rfl, hk⟩
  rw [if_neg c5, if_neg c5]
  by_cases c6 : wh = 6
  · rw [if_pos c6, if_pos c6]; exact ⟨rfl, hk⟩
  rw [if_neg c6, if_neg c6]
  by_cases c7 : wh = 7
  · rw [if_pos c7, if_pos c7]; exact ⟨rfl, hk⟩
  rw [if_neg c7, if_neg c7]
  by_cases c8 : wh = 8
  · rw [if_pos c8, if_pos c8]; exact ⟨rfl, hk⟩
  rw [if_neg c8, if_neg c8]
  by_cases c9 : wh = 9
  · rw [if_pos c9, if_pos c9]; exact ⟨rfl, hk⟩
  rw [if_neg c9, if_neg c9]
  by_cases c10 : wh = 10
  · rw [if_pos c10, if_pos c10]; exact ⟨rfl, hk⟩
  rw [if_neg c10, if_neg c10]
  by_cases c11 : wh = 11
  · rw [if_pos c11, if_pos c11]; exact ⟨rfl, hk⟩
  rw [if_neg c11, if_neg c11]
  by_cases c12 : wh = 12
  · rw [if_pos c12, if_pos c12]; exact ⟨rfl, hk⟩
  rw [if_neg c12, if_neg c12]
  exact ⟨rfl, hk⟩
theorem logged_eq {N : Nat} {h : Hp} {κ σ β τ : Nat → Int32} (hC : CI N h κ σ β τ) (ix wh : Int32) : S_X9_logged h ix wh = (S_X10_logged κ σ ix wh).1 ∧ CI (N + 1) h (S_X10_logged κ σ ix wh).2 σ β τ := by
  have e5 : h 5 1 = σ 63 := hC.1.2.1 1 (by decide)
  have hL := hC.1.2.1
  have w := hC.1.2.2.2.2.1
  have hk := hC.kap
  unfold S_X9_logged S_X10_logged
  rw [in_eq, e5]
  clear e5 hC
  by_cases c0 : ix < 0
  · rw [if_pos c0, if_pos c0]; exact ⟨rfl, hk⟩
  rw [if_neg c0, if_neg c0]
  by_cases c1 : S_X10_in wh 0 5 = 0
  · rw [if_pos c1, if_pos c1]; exact ⟨rfl, hk⟩
  rw [if_neg c1, if_neg c1]
  refine ⟨?_, hk⟩
  clear hk
  show _ = (if σ 63 ≤ ix then (-100009) else σ (Int32.toNatClampNeg (64 + 6 * ix + wh)))
  by_cases c2 : σ 63 ≤ ix
  · rw [if_pos c2, if_pos c2]
  rw [if_neg c2, if_neg c2]
  have b0 := nlt c0
  have b1 := in_iff c1
  have b2 := nle c2
  have z0 : (0 : Int32).toInt = 0 := rfl
  have z5 : (5 : Int32).toInt = 5 := rfl
  rw [z0] at b0 b1
  rw [z5] at b1
  obtain ⟨I, eI⟩ : ∃ I : Nat, ix.toInt = I := ⟨ix.toInt.toNat, by omega⟩
  obtain ⟨W, eW⟩ : ∃ W : Nat, wh.toInt = W := ⟨wh.toInt.toNat, by omega⟩
  have m1 : (ix * 6).toInt = ix.toInt * 6 := tml (b := 6) (by show -2147483648 ≤ ix.toInt * 6; omega) (by show ix.toInt * 6 < 2147483648; omega)
  have m2 : (6 * ix).toInt = 6 * ix.toInt := tml (a := 6) (by show -2147483648 ≤ 6 * ix.toInt; omega) (by show 6 * ix.toInt < 2147483648; omega)
  have a1 : (ix * 6 + wh).toInt = ((6 * I + W : Nat) : Int) := by
    rw [ta (by rw [m1]; omega) (by rw [m1]; omega), m1]
    omega
  have a2 : (64 + 6 * ix).toInt = 64 + 6 * ix.toInt := by
    rw [ta (a := 64) (by rw [m2]; show -2147483648 ≤ 64 + 6 * ix.toInt; omega) (by rw [m2]; show 64 + 6 * ix.toInt < 2147483648; omega), m2]
    rfl
  have a3 : (64 + 6 * ix + wh).toInt = ((64 + 6 * I + W : Nat) : Int) := by
    rw [ta (by rw [a2]; omega) (by rw [a2]; omega), a2]
    omega
  unfold S_X2_property
  rw [S_at_in a1 (by omega) (by decide), i_eq a3, hL _ (by omega)]
  congr 1
  omega
theorem batch_eq {N : Nat} {h : Hp} {κ σ β τ : Nat → Int32} (hC : CI N h κ σ β τ) (wh : Int32) : S_X9_batch h wh = (S_X10_batch κ σ wh).1 ∧ CI (N + 1) h (S_X10_batch κ σ wh).2 σ β τ := by
  have r := fun k a b c => hC.rows (k := k) a b c
  have r2 := hC.1.1.1
  have hW := hC.1.1.2.1
  have hA := hC.1.2.2.1
  have hk := hC.kap
  unfold S_X9_batch S_X10_batch
  rw [in_eq, r 1 (by decide) (by decide) (by simp)]
  by_cases c1 : S_X10_in wh 0 9 = 0
  · rw [if_pos c1, if_pos c1]; exact ⟨rfl, hk⟩
  rw [if_neg c1, if_neg c1]
  refine ⟨?_, hk⟩
  show _ = (if σ 1 = 0 then (-100002) else σ (Int32.toNatClampNeg (16 + wh)))
  by_cases c2 : σ 1 = 0
  · rw [if_pos c2, if_pos c2]
  rw [if_neg c2, if_neg c2]
  have b1 := in_iff c1
  have z0 : (0 : Int32).toInt = 0 := rfl
  have z9 : (9 : Int32).toInt = 9 := rfl
  rw [z0, z9] at b1
  have hw : wh = 0 ∨ wh = 1 ∨ wh = 2 ∨ wh = 3 ∨ wh = 4 ∨ wh = 5 ∨ wh = 6 ∨ wh = 7 ∨ wh = 8 ∨ wh = 9 := by
    rcases (show wh.toInt = 0 ∨ wh.toInt = 1 ∨ wh.toInt = 2 ∨ wh.toInt = 3 ∨ wh.toInt = 4 ∨ wh.toInt = 5 ∨ wh.toInt = 6 ∨ wh.toInt = 7 ∨ wh.toInt = 8 ∨ wh.toInt = 9 by omega) with e | e | e | e | e | e | e | e | e | e
    · exact Or.inl (Int32.toInt_inj.mp e)
    · exact Or.inr (Or.inl (Int32.toInt_inj.mp e))
    · exact Or.inr (Or.inr (Or.inl (Int32.toInt_inj.mp e)))
    · exact Or.inr (Or.inr (Or.inr (Or.inl (Int32.toInt_inj.mp e))))
    · exact Or.inr (Or.inr (Or.inr (Or.inr (Or.inl (Int32.toInt_inj.mp e)))))
    · exact Or.inr (Or.inr (Or.inr (Or.inr (Or.inr (Or.inl (Int32.toInt_inj.mp e))))))
    · exact Or.inr (Or.inr (Or.inr (Or.inr (Or.inr (Or.inr (Or.inl (Int32.toInt_inj.mp e)))))))
    · exact Or.inr (Or.inr (Or.inr (Or.inr (Or.inr (Or.inr (Or.inr (Or.inl (Int32.toInt_inj.mp e))))))))
    · exact Or.inr (Or.inr (Or.inr (Or.inr (Or.inr (Or.inr (Or.inr (Or.inr (Or.inl (Int32.toInt_inj.mp e)))))))))
    · exact Or.inr (Or.inr (Or.inr (Or.inr (Or.inr (Or.inr (Or.inr (Or.inr (Or.inr (Int32.toInt_inj.mp e)))))))))
  have latest : S_at (h 2) 26 1 6 (S_J9_floorMod_7cf53 (h 2 18) 6) = σ 21 := by
    rw [r 18 (by decide) (by decide) (by simp)]
    obtain ⟨a1, a2, _⟩ := age_ix (a := σ 18) (by omega)
    rw [S_at_in a1 a2 (by decide), Nat.one_mul, r _ (by omega) (by omega) (by omega)]
    exact hW.1.symm
  have win : S_X0_window (h 2) = σ 22 := by
    rw [window_eq, hW.2, r 26 (by decide) (by decide) (by simp), r 27 (by decide) (by decide) (by simp), r 28 (by decide) (by decide) (by simp), r 29 (by decide) (by decide) (by simp), r 30 (by decide) (by decide) (by simp), r 31 (by decide) (by decide) (by simp)]
  unfold S_X0_number
  rw [latest, win]
  clear latest win hA b1 z0 z9 c1 hk hC
  rcases hw with e | e | e | e | e | e | e | e | e | e <;> subst e
  · exact r 16 (by decide) (by decide) (by simp)
  · exact r 17 (by decide) (by decide) (by simp)
  · exact r 18 (by decide) (by decide) (by simp)
  · exact r 19 (by decide) (by decide) (by simp)
  · exact r 20 (by decide) (by decide) (by simp)
  · rfl
  · rfl
  · exact r2 23 (by decide) (by decide) ⟨by decide, fun _ => c2⟩
  · exact r2 24 (by decide) (by decide) ⟨by decide, fun _ => c2⟩
  · exact r 25 (by decide) (by decide) (by simp)
