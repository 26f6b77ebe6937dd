theorem ix33 {k : Int32} {K : Nat} (hk : k.toInt = K) (hK : K ≤ 100) : Int32.toNatClampNeg (33 + k) = 33 + K := by
  have z : (33 : Int32).toInt = 33 := rfl
  refine i_eq ?_
  rw [ta (by rw [z, hk]; omega) (by rw [z, hk]; omega), z, hk]
  omega
theorem L172_pt {κ σ α β τ ω κ1 α1 β1 ω1 : Nat → Int32} {re : Int32} : ∀ (fu : Nat) (k : Int32) (K : Nat) (σ1 : Nat → Int32), k.toInt = K → K ≤ 16 → 16 - K < fu → ∃ σf : Nat → Int32, L_X10_load_172 fu κ σ α β τ ω k κ1 σ1 α1 β1 ω1 re = (re, va_up κ1 2 0, σf, α1, β1, ω1) ∧ (∀ j, K ≤ j → j < 16 → σf (33 + j) = ω1 j) ∧ ∀ j, j < 33 + K ∨ 49 ≤ j → σf j = σ1 j := by
  intro fu
  induction fu with
  | zero => intro _ _ _ _ _ h; exact absurd h (Nat.not_lt_zero _)
  | succ fu ih =>
    intro k K σ1 hk hK hf
    unfold L_X10_load_172
    have z : (16 : Int32).toInt = 16 := rfl
    by_cases c : 16 ≤ k
    · have c2 := Int32.le_iff_toInt_le.mp c
      rw [hk, z] at c2
      rw [if_pos c]
      exact ⟨σ1, rfl, fun j h1 h2 => absurd h2 (by omega), fun j _ => rfl⟩
    · have c2 := nle c
      rw [hk, z] at c2
      rw [if_neg c, ix33 hk (by omega), i_eq hk]
      dsimp only
      obtain ⟨σf, a, b, d⟩ := ih (k + 1) (K + 1) (va_up σ1 (33 + K) (ω1 K)) (k_up hk (by omega)) (by omega) (by omega)
      refine ⟨σf, a, fun j h1 h2 => ?_, fun j hj => ?_⟩
      · by_cases e : j = K
        · rw [d (33 + j) (by omega), e, va_up_self]
        · exact b j (by omega) h2
      · rw [d j (by omega), va_up_ne _ _ (by omega)]
theorem L127_pt {κ σ α β τ ω κ1 σ1 α1 : Nat → Int32} {re : Int32} : ∀ (fu : Nat) (k : Int32) (K : Nat) (ω1 : Nat → Int32), k.toInt = K → K ≤ 16 → 16 - K < fu → ∃ ωf : Nat → Int32, L_X10_load_127 fu κ σ α β τ ω k κ1 σ1 α1 ω1 re = L_X10_load_172 17 κ σ α β τ ω 0 (S_X10_act κ1 (S_X10_release σ1 α1) β).1 (va_up (S_X10_release σ1 α1) 32 re) α1 (S_X10_act κ1 (S_X10_release σ1 α1) β).2 ωf re ∧ (∀ j, K ≤ j → j < 16 → ωf j = σ1 (33 + j)) ∧ ∀ j, j < K → ωf j = ω1 j := by
  intro fu
  induction fu with
  | zero => intro _ _ _ _ _ h; exact absurd h (Nat.not_lt_zero _)
  | succ fu ih =>
    intro k K ω1 hk hK hf
    conv => enter [1, ωf, 1, 1]; unfold L_X10_load_127
    have z : (16 : Int32).toInt = 16 := rfl
    by_cases c : 16 ≤ k
    · have c2 := Int32.le_iff_toInt_le.mp c
      rw [hk, z] at c2
      refine ⟨ω1, ?_, fun j h1 h2 => absurd h2 (by omega), fun j _ => rfl⟩
      rw [if_pos c]
    · have c2 := nle c
      rw [hk, z] at c2
      obtain ⟨ωf, a, b, d⟩ := ih (k + 1) (K + 1) (va_up ω1 K (σ1 (33 + K))) (k_up hk (by omega)) (by omega) (by omega)
      refine ⟨ωf, ?_, fun j h1 h2 => ?_, fun j hj => ?_⟩
      · rw [if_neg c, ix33 hk (by omega), i_eq hk]
        exact a
      · by_cases e : j = K
        · rw [d j (by omega), e, va_up_self]
        · exact b j (by omega) h2
      · rw [d j (by omega), va_up_ne _ _ (by omega)]
theorem CI_clear {M : Nat} {h : Hp} {κ σ β τ : Nat → Int32} (hC : CI M h κ σ β τ) : CI M (va_up h 7 (va_up (h 7) 0 0)) (va_up κ 2 0) σ β τ := by
  obtain ⟨a, b, c⟩ := hC
  refine ⟨?_, KS_congr (fun g hg => va_up_ne _ _ (by omega)) (va_up_ne _ _ (by decide)) b, 0, by decide, by rw [va_up_self]; rfl, ?_, fun k hk => absurd hk (Nat.not_lt_zero _)⟩
  · rw [va_up_ne _ _ (show 2 ≠ 7 by decide), va_up_ne _ _ (show 3 ≠ 7 by decide), va_up_ne _ _ (show 4 ≠ 7 by decide), va_up_ne _ _ (show 5 ≠ 7 by decide)]
    exact a
  · rw [va_up_self, va_up_self, va_up_self]
theorem CI_kap {N : Nat} {h h' : Hp} {κ κ' σ σ' β τ : Nat → Int32} (hC : CI N h κ σ β τ) (hh : ∀ g, g ≠ 8 → g ≠ 9 → h' g = h g) (h1 : κ' 1 = κ 1) (h2 : κ' 2 = κ 2) (hs : ∀ j, j < 112 → σ' j = σ j) : CI N h' κ' σ' β τ := by
  obtain ⟨a, b, c⟩ := hC
  refine ⟨?_, KS_congr (fun g hg => hh g (by omega) (by omega)) h1 b, TX_congr (hh 7 (by decide) (by decide)) h2 c⟩
  rw [hh 2 (by decide) (by decide), hh 3 (by decide) (by decide), hh 4 (by decide) (by decide), hh 5 (by decide) (by decide)]
  exact SR_congr hs a
theorem load_eq {N : Nat} {h : Hp} {κ σ α β τ ω : Nat → Int32} (hN : N ≤ 100000) (hC : CI N h κ σ β τ) : (S_X9_load h).1 = (S_X10_load κ σ α β τ ω).1 ∧ CI (N + 1) (S_X9_load h).2 (S_X10_load κ σ α β τ ω).2.1 (S_X10_load κ σ α β τ ω).2.2.1 (S_X10_load κ σ α β τ ω).2.2.2.2.1 τ := by
  obtain ⟨n, hn, en, e7, hk⟩ := hC.2.2
  have hT : TT (h 7) τ n := ⟨by rw [e7]; exact en, hn, fun k hk' => (hk k hk').1⟩
  obtain ⟨r5, er5⟩ : ∃ r, va_up (va_up (va_up κ 0 0) 3 0) 4 (-100009) = r := ⟨_, rfl⟩
  have r50 : r5 0 = 0 := by rw [← er5]; rfl
  have r51 : r5 1 = κ 1 := by rw [← er5]; rfl
  have r52 : r5 2 = κ 2 := by rw [← er5]; rfl
  have r53 : r5 3 = 0 := by rw [← er5]; rfl
  have r54 : r5 4 = -100009 := by rw [← er5]; rfl
  obtain ⟨j, j1, j2, j3, j4, j5, -⟩ := sp_at (κ := r5) (sa := 0) hT rfl (Nat.zero_le _) r53 (by rw [r52]; exact en)
  obtain ⟨sa, esa⟩ : ∃ x, S_X8_afterSpaces (h 7) 0 = x := ⟨_, rfl⟩
  rw [esa] at j3 j4
  have eM : S_X10_load κ σ α β τ ω = L_X10_load_32 200 κ σ α β τ ω (va_up r5 3 sa) (va_up σ 32 0) (S_X10_hold σ α) := by
    unfold S_X10_load
    dsimp only
    rw [er5, j4]
  have eC : S_X3_errorPosition (h 8) (h 9) (h 7) = L_X3_errorPosition_24 101 (h 8) (h 9) (h 7) 0 sa 0 (va_up (h 8) 0 (-1)) (va_up (h 9) 0 0) := by
    unfold S_X3_errorPosition
    rw [esa]
  have hTI : TI (va_up r5 3 sa) := by
    obtain ⟨e1, m, o, em, hm5, _⟩ := hC.2.1
    refine ⟨?_, ?_, ?_⟩
    · rw [va_up_ne _ _ (by decide), r51, em]; omega
    · rw [va_up_ne _ _ (by decide), r52, en]; omega
    · rw [va_up_self, j3]; omega
  have hR : RDP (va_up (h 8) 0 (-1)) (va_up (h 9) 0 0) (va_up σ 32 0) := by
    refine ⟨0, ⟨rfl, by decide, fun j hj => absurd hj (by omega), fun j hj => absurd hj (by omega), fun j hj => absurd hj (by omega)⟩, fun j hj => ?_, ?_⟩
    · rw [show j = 0 by omega]
      rfl
    · rw [if_pos rfl]
      rfl
  have key := read_loop (κ := κ) (σ := σ) (α := α) (β := β) (ω := ω) (ρ0 := h 8) (π0 := h 9) (α1 := S_X10_hold σ α) hT 200 101 j 0 sa 0 _ _ (va_up r5 3 sa) _ rfl (Nat.zero_le _) j2 (by omega) j3 rfl j5 (va_up_self _ _ _) (by rw [va_up_ne _ _ (by decide)]; exact r54) (by rw [va_up_ne _ _ (by decide), r52]; exact en) hTI hR
  rw [← eC, ← eM] at key
  unfold S_X9_load
  generalize S_X3_errorPosition (h 8) (h 9) (h 7) = EP at *
  generalize S_X10_load κ σ α β τ ω = X at *
  clear eM eC esa hTI hR
  obtain ⟨κ2, σ2, k1, k2, k3⟩ := key
  have q0 : κ2 0 = 0 := by rw [k1 0 (by decide) (by decide), va_up_ne _ _ (by decide)]; exact r50
  have q1 : κ2 1 = κ 1 := by rw [k1 1 (by decide) (by decide), va_up_ne _ _ (by decide)]; exact r51
  have q2 : κ2 2 = κ 2 := by rw [k1 2 (by decide) (by decide), va_up_ne _ _ (by decide)]; exact r52
  have hh : ∀ g, g ≠ 8 → g ≠ 9 → va_up (va_up h 8 EP.2.1) 9 EP.2.2 g = h g := fun g a b => (va_up_ne _ _ b).trans (va_up_ne _ _ a)
  have hα : ∀ j, j < 112 → S_X10_hold σ α j = σ j := fun j hj => by rw [hold_pt, if_pos hj]
  have hσ : ∀ j, j < 112 → S_X10_release σ2 (S_X10_hold σ α) j = σ j := fun j hj => by rw [release_pt, if_pos hj]; exact hα j hj
  generalize S_X10_hold σ α = α1 at *
  obtain ⟨ωf, a1, a2, -⟩ := L127_pt (κ := κ) (σ := σ) (α := α) (β := β) (τ := τ) (ω := ω) (κ1 := κ2) (σ1 := σ2) (α1 := α1) (re := σ2 32) 17 0 0 ω rfl (by decide) (by decide)
  generalize S_X10_release σ2 α1 = σr at *
  have hC2 := CI_kap hC hh q1 q2 hσ
  rcases k3 with ⟨u1, u2, u3, u4⟩ | ⟨u1, u2⟩
  · rw [a1] at u2
    obtain ⟨R, A, eR, eA, rl, q⟩ := CI_pack hN hC2
    rw [va_up_id2 q0] at eA
    rw [eA] at u2
    obtain ⟨σf, c1, c2, c3⟩ := L172_pt (κ := κ) (σ := σ) (α := α) (β := β) (τ := τ) (ω := ω) (κ1 := A.1) (α1 := α1) (β1 := A.2) (ω1 := ωf) (re := σ2 32) 17 0 0 (va_up σr 32 (σ2 32)) rfl (by decide) (by decide)
    rw [c1] at u2
    rw [u2, if_pos u1]
    dsimp only
    rw [eR]
    have r9 : R 9 = EP.2.2 := by rw [rl 9 (by decide), va_up_self]
    rw [r9]
    obtain ⟨m, g, r, -⟩ := u3
    have hm := g.2.1
    have em : (EP.2.2 0).toInt = m := by rw [r 0 (by omega)]; exact g.1
    have cp : ∀ j, j ≤ 2 * m → S_X6_copyFrom (R 3) EP.2.2 8 j = σ2 (32 + j) := fun j hj => by
      rw [table_copy (by decide) em hm hj]
      exact r j hj
    have f : ∀ j, j ≤ 16 → σf (32 + j) = σ2 (32 + j) := fun j hj => by
      cases j with
      | zero => exact (c3 32 (by decide)).trans (va_up_self _ _ _)
      | succ j => rw [show 32 + (j + 1) = 33 + j by omega, c2 j (by omega) (by omega), a2 j (by omega) (by omega)]
    have far : ∀ j, j < 32 ∨ 49 ≤ j → σf j = σr j := fun j hj => by rw [c3 j (by omega), va_up_ne _ _ (by omega)]
    generalize S_X6_copyFrom (R 3) EP.2.2 8 = π' at *
    refine ⟨cp 0 (by omega), ?_⟩
    have fin := CI_clear (q (va_up R 3 π') σf (by
      rw [va_up_self, va_up_ne _ _ (show 2 ≠ 3 by decide), va_up_ne _ _ (show 4 ≠ 3 by decide), va_up_ne _ _ (show 5 ≠ 3 by decide), rl 2 (by decide), rl 4 (by decide), rl 5 (by decide)]
      exact SR_prof (SR_mono hC2.1) far ⟨m, GT_agree (fun j hj => f j (by omega)) g, fun j hj => by rw [cp j hj, f j (by omega)]⟩) (fun k hk => va_up_ne _ _ (by omega)))
    rw [va_up_ne _ _ (show 7 ≠ 3 by decide)] at fin
    exact fin
  · rw [u2, if_neg u1]
    refine ⟨rfl, ?_⟩
    exact ⟨SR_mono hC2.1, KS_mono hC2.2.1, hC2.2.2⟩
