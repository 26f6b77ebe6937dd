theorem run_eq {N : Nat} {h : Hp} {κ σ β τ : Nat → Int32} (hN : N ≤ 100000) (hC : CI N h κ σ β τ) (ti : Int32) : (S_X9_run h ti).1 = (S_X10_run κ σ β ti).1 ∧ CI (N + 1) (S_X9_run h ti).2 (S_X10_run κ σ β ti).2.1 (S_X10_run κ σ β ti).2.2.1 (S_X10_run κ σ β ti).2.2.2 τ := by
  obtain ⟨R, A, eR, eA, rl, q⟩ := CI_pack hN hC
  unfold S_X9_run S_X10_run
  rw [in_eq, eR, hC.rows (k := 0) (by decide) (by decide) (by simp)]
  dsimp only
  rw [eA]
  clear eR eA
  by_cases c0 : S_X10_in ti 1 200 = 0
  · rw [if_pos c0, if_pos c0]
    exact ⟨rfl, CI_none rfl rfl hC⟩
  rw [if_neg c0, if_neg c0]
  by_cases c1 : σ 0 + ti ≤ 10000
  · rw [if_pos c1, if_pos c1]
    have b0 := in_iff c0
    have z1 : (1 : Int32).toInt = 1 := rfl
    have z2 : (200 : Int32).toInt = 200 := rfl
    have z3 : (10000 : Int32).toInt = 10000 := rfl
    have z0 : (0 : Int32).toInt = 0 := rfl
    rw [z1, z2] at b0
    obtain ⟨T, eT⟩ : ∃ T : Nat, ti.toInt = T := ⟨ti.toInt.toNat, by omega⟩
    have w := hC.1.2.2.1
    have b1 := Int32.le_iff_toInt_le.mp c1
    rw [ta (by omega) (by omega), z3] at b1
    have hS : SR (N + 1) (R 2) (R 3) (R 4) (R 5) σ := by
      rw [rl 2 (by decide), rl 3 (by decide), rl 4 (by decide), rl 5 (by decide)]
      exact SR_mono hC.1
    obtain ⟨a, b, d, e, f⟩ := run_loop (h := h) (κ := κ) (σ := σ) (β := β) (κ1 := A.1) (β1 := A.2) eT (by omega) ((ti.toInt - (0 : Int32).toInt).toNat + 1) 0 0 R σ rfl (Nat.zero_le _) (by rw [eT, z0]; omega) hS (by omega)
    generalize L_X9_run_45 ((ti.toInt - (0 : Int32).toInt).toNat + 1) h ti 0 R = X at *
    generalize L_X10_run_42 ((ti.toInt - (0 : Int32).toInt).toNat + 1) κ σ β ti 0 A.1 σ A.2 = Y at *
    refine ⟨a, ?_⟩
    rw [b, d]
    exact q _ _ e (fun g hg => f g (by omega))
  · rw [if_neg c1, if_neg c1]
    exact ⟨rfl, CI_none rfl rfl hC⟩
theorem SR_ph {M : Nat} {ρ π μ ν σ : Nat → Int32} {v : Int32} (h : SR M ρ π μ ν σ) (hv : v = 0 ∨ v = 1 ∨ v = 2) (h1 : ¬ v = 0 → ¬ σ 1 = 0) : SR M (va_up ρ 1 v) π μ ν (va_up σ 1 v) := by
  obtain ⟨hC, hL, ⟨w1, w2, w3, w4, w5⟩⟩ := h
  refine ⟨CR_set hC (by decide) (TK_ne (by decide) hC.2.2.1) (fun _ => h1), fun j hj => by rw [va_up_ne _ _ (show 62 + j ≠ 1 by omega)]; exact hL j hj, ?_⟩
  unfold WS
  rw [va_up_self, va_up_ne _ _ (show 0 ≠ 1 by decide), va_up_ne _ _ (show 6 ≠ 1 by decide), va_up_ne _ _ (show 18 ≠ 1 by decide), va_up_ne _ _ (show 62 ≠ 1 by decide), va_up_ne _ _ (show 63 ≠ 1 by decide)]
  exact ⟨w1, hv, w3, w4, fun j hj => by rw [va_up_ne _ _ (show 64 + 6 * j ≠ 1 by omega)]; exact w5 j hj⟩
theorem takeAway_eq {N : Nat} {h : Hp} {κ σ β τ : Nat → Int32} (hN : N ≤ 100000) (hC : CI N h κ σ β τ) : (S_X9_takeAway h).1 = (S_X10_takeAway κ σ β).1 ∧ CI (N + 1) (S_X9_takeAway h).2 (S_X10_takeAway κ σ β).2.1 (S_X10_takeAway κ σ β).2.2.1 (S_X10_takeAway κ σ β).2.2.2 τ := by
  obtain ⟨R, A, eR, eA, rl, q⟩ := CI_pack hN hC
  unfold S_X9_takeAway S_X10_takeAway
  rw [eR, hC.rows (k := 1) (by decide) (by decide) (by simp), hC.rows (k := 16) (by decide) (by decide) (by simp), hC.rows (k := 3) (by decide) (by decide) (by simp)]
  dsimp only
  rw [eA]
  clear eR eA
  by_cases c0 : σ 1 = 2
  · rw [if_pos c0, if_pos c0]
    obtain ⟨k1, k2, k3, k4, k5, k6, k7, k8, k9, k10⟩ := hC.1.1.2.2.1
    have z : (150 : Int32).toInt = 150 := rfl
    have cc : σ 16 - σ 3 ≤ 150 ↔ σ 16 ≤ σ 3 + 150 := by
      rw [Int32.le_iff_toInt_le, Int32.le_iff_toInt_le, tsu (by omega) (by omega), ta (by rw [z]; omega) (by rw [z]; omega), z]
      omega
    by_cases c1 : σ 16 - σ 3 ≤ 150
    · rw [if_pos c1, if_pos (cc.mp c1)]
      show va_up (R 2) 1 0 16 = va_up σ 1 0 16 ∧ CI (N + 1) (va_up R 2 (va_up (R 2) 1 0)) A.1 (va_up σ 1 0) A.2 τ
      refine ⟨?_, q _ _ (SR_new hC rl (fun hS => ?_)) (fun g hg => va_up_ne _ _ (by omega))⟩
      · show R 2 16 = σ 16
        rw [rl 2 (by decide)]
        exact hC.rows (by decide) (by decide) (by simp)
      · rw [rl 2 (by decide)]
        exact SR_ph hS (Or.inl rfl) (fun q => absurd rfl q)
    · rw [if_neg c1, if_neg (fun d => c1 (cc.mpr d))]
      exact ⟨rfl, CI_none rfl rfl hC⟩
  · rw [if_neg c0, if_neg c0]
    exact ⟨rfl, CI_none rfl rfl hC⟩
