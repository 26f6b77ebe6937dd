theorem dr_end {x y : Int64} (hy : 0 < y.toInt) : S_X9_quotient x y = if 0 ≤ lg_cmp (x - x / y * y) 0 then x / y else x / y - 1 := by
  apply Int64.toInt_inj.mp
  rw [quo64 hy, dv_floor x.toInt hy]
  by_cases c : 0 ≤ lg_cmp (x - x / y * y) 0
  · have c2 := Int64.le_iff_toInt_le.mp (lgc_le.mp c)
    rw [dr64 hy] at c2
    have z : (0 : Int64).toInt = 0 := rfl
    rw [z] at c2
    rw [if_pos c, if_neg (by omega), dq64 hy]
  · have c2 : x.toInt.tmod y.toInt < 0 := by
      rcases Int.lt_or_le (x.toInt.tmod y.toInt) 0 with q | q
      · exact q
      · exact absurd (lgc_le.mpr (Int64.le_iff_toInt_le.mpr (by rw [dr64 hy]; exact q))) c
    rw [if_neg c, if_pos c2, ds64 hy c2, dv_floor x.toInt hy, if_pos c2]
theorem prop_ix {σ ν : Nat → Int32} {k wh : Int32} {K W : Nat} (hν : ∀ j, j < 50 → ν j = σ (62 + j)) (eK : k.toInt = K) (hK : K ≤ 7) (eW : wh.toInt = W) (hW : W ≤ 5) : S_X2_property ν k wh = σ (Int32.toNatClampNeg (64 + 6 * k + wh)) ∧ S_X2_property ν k 0 = σ (Int32.toNatClampNeg (64 + 6 * k)) := by
  have m1 : (k * 6).toInt = 6 * (K : Int) := by
    rw [tml (b := 6) (by rw [eK]; show -2147483648 ≤ (K : Int) * 6; omega) (by rw [eK]; show (K : Int) * 6 < 2147483648; omega), eK]
    show (K : Int) * 6 = _
    omega
  have m2 : (6 * k).toInt = 6 * (K : Int) := by
    rw [tml (a := 6) (by rw [eK]; show -2147483648 ≤ 6 * (K : Int); omega) (by rw [eK]; show 6 * (K : Int) < 2147483648; omega), eK]
    rfl
  have z0 : (0 : Int32).toInt = 0 := rfl
  have z64 : (64 : Int32).toInt = 64 := rfl
  have a1 : (k * 6 + wh).toInt = ((6 * K + W : Nat) : Int) := by
    rw [ta (by rw [m1]; omega) (by rw [m1]; omega), m1]
    omega
  have a0 : (k * 6 + 0).toInt = ((6 * K : Nat) : Int) := by
    rw [ta (by rw [m1, z0]; omega) (by rw [m1, z0]; omega), m1, z0]
    omega
  have b0 : (64 + 6 * k).toInt = ((64 + 6 * K : Nat) : Int) := by
    rw [ta (by rw [m2, z64]; omega) (by rw [m2, z64]; omega), m2, z64]
    omega
  have b1 : (64 + 6 * k + wh).toInt = ((64 + 6 * K + W : Nat) : Int) := by
    rw [ta (by rw [b0]; omega) (by rw [b0]; omega), b0]
    omega
  unfold S_X2_property
  rw [S_at_in a1 (by omega) (by decide), S_at_in a0 (by omega) (by decide), i_eq b0, i_eq b1, hν _ (by omega), hν _ (by omega)]
  refine ⟨?_, ?_⟩
  · congr 1
    omega
  · congr 1
    omega
theorem slope_loop {σ ν κ κ1 : Nat → Int32} {wh : Int32} {W : Nat} (eW : wh.toInt = W) (hW : W ≤ 5) (hl : LGI σ) (hν : ∀ j, j < 50 → ν j = σ (62 + j)) : ∀ (fu1 fu2 : Nat) (k : Int32) (K : Nat) (nn sx sv sxv sxx : Int64), k.toInt = K → (K : Int) ≤ (σ 63).toInt → 8 - K < fu1 → ((σ 63).toInt - K).toNat < fu2 → DI64 σ k nn sx sxx → L_X2_slope_17 fu1 ν wh nn sx sv sxv sxx k = (L_X10_drift_34 fu2 κ σ wh nn sx sv sxv sxx k κ1).1 ∧ (L_X10_drift_34 fu2 κ σ wh nn sx sv sxv sxx k κ1).2 = κ1 := by
  intro fu1
  induction fu1 with
  | zero => intro _ _ _ _ _ _ _ _ _ _ h; exact absurd h (Nat.not_lt_zero _)
  | succ fu1 ih =>
    intro fu2 k K nn sx sv sxv sxx hk hK hf1 hf2 hD
    cases fu2 with
    | zero => exact absurd hf2 (Nat.not_lt_zero _)
    | succ fu2 =>
      have v1 : ν 1 = σ 63 := hν 1 (by decide)
      have h8 := hl.1
      unfold L_X2_slope_17 L_X10_drift_34
      rw [v1]
      by_cases c : σ 63 ≤ k
      · rw [if_pos c, if_pos c, ite_self]
        have c2 := Int32.le_iff_toInt_le.mp c
        by_cases d : 0 ≤ lg_cmp nn 2
        · rw [if_pos d, if_pos d]
          have q := DI_pos (by rw [hk]; omega) hD d
          refine ⟨?_, rfl⟩
          try dsimp only
          rw [dr_end q]
        · rw [if_neg d, if_neg d]
          exact ⟨rfl, rfl⟩
      · have c2 := nle c
        rw [hk] at c2
        have z8 : (8 : Int32).toInt = 8 := rfl
        rw [if_neg c, if_neg c, if_neg (show ¬ 8 ≤ k from fun q => by have := Int32.le_iff_toInt_le.mp q; rw [hk, z8] at this; omega)]
        obtain ⟨p1, p2⟩ := prop_ix hν hk (by omega) eW hW
        rw [p1, p2]
        have st := DI_st (P := lg_cmp (Int32.toInt64 (σ (Int32.toNatClampNeg (64 + 6 * k + wh)))) (-100009 : Int64) = 0) hl (by rw [hk]; omega) c hD
        exact ih _ _ (K + 1) _ _ _ _ _ (k_up hk (by omega)) (by omega) (by omega) (by omega) st
theorem drift_eq {N : Nat} {h : Hp} {κ σ β τ : Nat → Int32} (hN : N ≤ 1000) (hC : CI N h κ σ β τ) (wh : Int32) : S_X9_drift h wh = (S_X10_drift κ σ wh).1 ∧ CI (N + 1) h (S_X10_drift κ σ wh).2 σ β τ := by
  have w := hC.1.2.2
  have hl : LGI σ := ⟨w.2.2.1, ⟨w.2.2.2.1.1, by have := w.2.2.2.1.2; omega⟩, w.2.2.2.2⟩
  unfold S_X9_drift S_X10_drift
  rw [in_eq]
  try dsimp only
  by_cases c0 : S_X10_in wh 1 5 = 0
  · rw [if_pos c0, if_pos c0]
    exact ⟨rfl, hC.kap⟩
  rw [if_neg c0, if_neg c0]
  have b := in_iff c0
  have z1 : (1 : Int32).toInt = 1 := rfl
  have z5 : (5 : Int32).toInt = 5 := rfl
  have z0 : (0 : Int32).toInt = 0 := rfl
  rw [z1, z5] at b
  obtain ⟨W, eW⟩ : ∃ W : Nat, wh.toInt = W := ⟨wh.toInt.toNat, by omega⟩
  obtain ⟨a1, a2⟩ := slope_loop (κ := κ) (κ1 := va_up κ 0 0) eW (by omega) hl hC.1.2.1 9 (((σ 63).toInt - (0 : Int32).toInt).toNat + 1) 0 0 0 0 0 0 0 rfl hl.1.1 (by decide) (by rw [z0]; omega) (DI_0 _)
  generalize L_X10_drift_34 (((σ 63).toInt - (0 : Int32).toInt).toNat + 1) κ σ wh 0 0 0 0 0 0 (va_up κ 0 0) = X at *
  refine ⟨a1, ?_⟩
  rw [a2]
  exact hC.kap
