theorem undo_CI {N : Nat} {h : Hp} {κ σ β τ : Nat → Int32} (hN : N ≤ 100000) (hC : CI N h κ σ β τ) : (S_X9_undo h).1 = (S_X10_undo κ σ β).1 ∧ CI (N + 1) (S_X9_undo h).2 (S_X10_undo κ σ β).2.1 (S_X10_undo κ σ β).2.2 β τ := by
  obtain ⟨a, b, c, d, e⟩ := undo_eq hN hC.1 hC.2.1
  exact ⟨a, SR_mono b, KS_mono c, TX_congr (d 7 (by decide)) (e 2 (by decide)) hC.2.2⟩
theorem SR_row {N : Nat} {h : Hp} {κ σ β τ : Nat → Int32} {g : Nat} {r : Nat → Int32} (hg : 5 < g ∧ g < 10) (hC : CI N h κ σ β τ) : SR (N + 1) (va_up h g r 2) (va_up h g r 3) (va_up h g r 4) (va_up h g r 5) σ ∧ ∀ κ' : Nat → Int32, κ' 1 = κ 1 → KS (N + 1) (va_up h g r) κ' β := by
  refine ⟨?_, fun κ' hk => KS_congr (fun k hk => va_up_ne _ _ (by omega)) hk (KS_mono hC.2.1)⟩
  rw [va_up_ne _ _ (show 2 ≠ g by omega), va_up_ne _ _ (show 3 ≠ g by omega), va_up_ne _ _ (show 4 ≠ g by omega), va_up_ne _ _ (show 5 ≠ g by omega)]
  exact SR_mono hC.1
theorem clear_eq {N : Nat} {h : Hp} {κ σ β τ : Nat → Int32} (hC : CI N h κ σ β τ) : (S_X9_clearText h).1 = (S_X10_clearText κ).1 ∧ CI (N + 1) (S_X9_clearText h).2 (S_X10_clearText κ).2 σ β τ := by
  obtain ⟨n, hn, en, e7, hk⟩ := hC.2.2
  obtain ⟨a, b⟩ := SR_row (g := 7) (r := va_up (h 7) 0 0) (by decide) hC
  show h 7 0 = κ 2 ∧ CI (N + 1) (va_up h 7 (va_up (h 7) 0 0)) (va_up (va_up κ 0 0) 2 0) σ β τ
  refine ⟨e7, a, b _ rfl, 0, by decide, rfl, ?_, fun k hk => absurd hk (Nat.not_lt_zero _)⟩
  rw [va_up_self]
  rfl
theorem append_eq {N : Nat} {h : Hp} {κ σ β τ : Nat → Int32} (hC : CI N h κ σ β τ) (ch : Int32) : (S_X9_append h ch).1 = (S_X10_append κ τ ch).1 ∧ CI (N + 1) (S_X9_append h ch).2 (S_X10_append κ τ ch).2.1 σ β (S_X10_append κ τ ch).2.2 := by
  obtain ⟨n, hn, en, e7, hk⟩ := hC.2.2
  unfold S_X9_append S_X10_append
  rw [in_eq]
  by_cases c0 : S_X10_in ch 1 255 = 0
  · rw [if_pos c0, if_pos c0]; exact ⟨rfl, hC.kap⟩
  rw [if_neg c0, if_neg c0]
  have b0 := in_iff c0
  have k2 : va_up κ 0 0 2 = κ 2 := rfl
  have z : (100 : Int32).toInt = 100 := rfl
  by_cases c1 : n = 100
  · rw [if_neg (show ¬ h 7 0 < 100 from fun q => by
      have := Int32.lt_iff_toInt_lt.mp q
      rw [e7, en, z] at this
      omega), if_pos (show va_up κ 0 0 2 = 100 from Int32.toInt_inj.mp (by rw [k2, en, c1]; rfl))]
    exact ⟨rfl, hC.kap⟩
  rw [if_pos (show h 7 0 < 100 from Int32.lt_iff_toInt_lt.mpr (by rw [e7, en, z]; omega)), if_neg (show ¬ va_up κ 0 0 2 = 100 from fun q => c1 (by
    have := congrArg Int32.toInt q
    rw [k2, en, z] at this
    omega))]
  have e7n : (h 7 0).toInt = n := by rw [e7]; exact en
  have ea : S_X8_add (h 7) ch = va_up (va_up (h 7) (1 + n) ch) 0 (h 7 0 + 1) := by
    unfold S_X8_add
    rw [if_neg (show ¬ 100 ≤ h 7 0 from fun q => by
      have := Int32.le_iff_toInt_le.mp q
      rw [e7n, z] at this
      omega), S_put_in e7n (by omega) (by decide), Nat.one_mul]
    dsimp only
    rw [va_up_ne _ _ (show 0 ≠ 1 + n by omega)]
  rw [ea]
  clear ea c0
  obtain ⟨a, b⟩ := SR_row (g := 7) (r := va_up (va_up (h 7) (1 + n) ch) 0 (h 7 0 + 1)) (by decide) hC
  dsimp only
  rw [k2, i_eq en]
  refine ⟨by rw [va_up_self, va_up_self, e7], a, b _ rfl, n + 1, by omega, ?_, ?_, fun k hk1 => ?_⟩
  · rw [va_up_self]
    exact k_up en (by omega)
  · rw [va_up_self, va_up_self, va_up_self, e7]
  · rw [va_up_self, va_up_ne _ _ (show 1 + k ≠ 0 by omega)]
    by_cases d : k = n
    · subst d
      rw [va_up_self, va_up_self]
      have z1 : (1 : Int32).toInt = 1 := rfl
      have z2 : (255 : Int32).toInt = 255 := rfl
      rw [z1, z2] at b0
      exact ⟨rfl, b0⟩
    · rw [va_up_ne _ _ (show 1 + k ≠ 1 + n by omega), va_up_ne _ _ d]
      exact hk k (by omega)
