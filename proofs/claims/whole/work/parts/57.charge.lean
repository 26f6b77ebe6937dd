theorem L_start_pt {ρ : Nat → Int32} {ma am : Int32} : ∀ (fu : Nat) (k : Int32) (K : Nat) (ρ1 : Nat → Int32), k.toInt = K → K ≤ 6 → 6 - K < fu → ∀ j, L_X0_start_27 fu ρ ma am k ρ1 j = if j = 25 then am else if j = 24 ∨ j = 23 then -100009 else if 26 + K ≤ j ∧ j < 32 then 0 else ρ1 j := by
  intro fu
  induction fu with
  | zero => intro _ _ _ _ _ h; exact absurd h (Nat.not_lt_zero _)
  | succ fu ih =>
    intro k K ρ1 hk hK hf j
    unfold L_X0_start_27
    have z : (6 : Int32).toInt = 6 := rfl
    by_cases c : 6 ≤ k
    · have c2 := Int32.le_iff_toInt_le.mp c
      rw [hk, z] at c2
      rw [if_pos c]
      clear ih hk c z
      simp only [va_up]
      repeat' split
      all_goals first | rfl | omega
    · have c2 := nle c
      rw [hk, z] at c2
      rw [if_neg c, S_put_in hk (by omega) (by decide)]
      try dsimp only
      rw [ih _ (K + 1) _ (k_up hk (by omega)) (by omega) (by omega) j]
      clear ih hk c z
      simp only [va_up]
      repeat' split
      all_goals first | rfl | omega
theorem batch_pt {ρ : Nat → Int32} {ma : Int32} (j : Nat) : S_X4_startBatch ρ ma j = if j = 13 then 0 else if j = 1 then 1 else if j = 25 then ρ 3 else if j = 24 ∨ j = 23 then -100009 else if 26 ≤ j ∧ j < 32 then 0 else if j = 20 ∨ j = 19 ∨ j = 18 then 0 else if j = 17 then ma else if j = 16 then ρ 3 else ρ j := by
  unfold S_X4_startBatch S_X0_start
  try dsimp only
  have q := fun ρ1 j => L_start_pt (ρ := ρ) (ma := ma) (am := ρ 3) 7 0 0 ρ1 rfl (by decide) (by decide) j
  generalize L_X0_start_27 7 ρ ma (ρ 3) 0 = X at q ⊢
  simp only [va_up, q]
  clear q
  repeat' split
  all_goals first | rfl | omega
theorem L_chg_pt {κ σ β κ1 β1 : Nat → Int32} {ma : Int32} : ∀ (fu : Nat) (k : Int32) (K : Nat) (σ1 : Nat → Int32), k.toInt = K → 16 ≤ K → K ≤ 32 → 32 - K < fu → (L_X10_charge_39 fu κ σ β ma k κ1 σ1 β1).1 = σ1 2 ∧ (L_X10_charge_39 fu κ σ β ma k κ1 σ1 β1).2.1 = κ1 ∧ (L_X10_charge_39 fu κ σ β ma k κ1 σ1 β1).2.2.2 = β1 ∧ ∀ j, (L_X10_charge_39 fu κ σ β ma k κ1 σ1 β1).2.2.1 j = if j = 13 then 0 else if j = 24 ∨ j = 23 then -100009 else if j = 17 then ma else if j = 25 ∨ j = 16 then σ1 3 else if j = 1 then 1 else if K ≤ j ∧ j < 32 then 0 else σ1 j := by
  intro fu
  induction fu with
  | zero => intro _ _ _ _ _ _ h; exact absurd h (Nat.not_lt_zero _)
  | succ fu ih =>
    intro k K σ1 hk h16 hK hf
    unfold L_X10_charge_39
    have z : (32 : Int32).toInt = 32 := rfl
    by_cases c : 32 ≤ k
    · have c2 := Int32.le_iff_toInt_le.mp c
      rw [hk, z] at c2
      rw [if_pos c]
      clear ih hk c z
      refine ⟨rfl, rfl, rfl, fun j => ?_⟩
      simp only [va_up]
      repeat' split
      all_goals first | rfl | omega
    · have c2 := nle c
      rw [hk, z] at c2
      rw [if_neg c, i_eq hk]
      try dsimp only
      obtain ⟨a, b, d, e⟩ := ih (k + 1) (K + 1) (va_up σ1 K 0) (k_up hk (by omega)) (by omega) (by omega) (by omega)
      generalize L_X10_charge_39 fu κ σ β ma (k + 1) κ1 (va_up σ1 K 0) β1 = X at *
      refine ⟨a.trans (va_up_ne _ _ (by omega)), b, d, fun j => ?_⟩
      rw [e j]
      clear ih hk c z a b d e
      simp only [va_up]
      repeat' split
      all_goals first | rfl | omega
theorem SR_charge {M : Nat} {ρ π μ ν σ ρ' σ' : Nat → Int32} {ma : Int32} (h : SR M ρ π μ ν σ) (hma : 0 ≤ ma.toInt ∧ ma.toInt ≤ 1000) (hr : ∀ j, ρ' j = if j = 13 then 0 else if j = 1 then 1 else if j = 25 then ρ 3 else if j = 24 ∨ j = 23 then -100009 else if 26 ≤ j ∧ j < 32 then 0 else if j = 20 ∨ j = 19 ∨ j = 18 then 0 else if j = 17 then ma else if j = 16 then ρ 3 else ρ j) (hs : ∀ j, σ' j = if j = 13 then 0 else if j = 24 ∨ j = 23 then -100009 else if j = 17 then ma else if j = 25 ∨ j = 16 then σ 3 else if j = 1 then 1 else if 16 ≤ j ∧ j < 32 then 0 else σ j) : SR M ρ' π μ ν σ' := by
  obtain ⟨⟨hR, hW, hK, ⟨m, g, r⟩, ⟨m2, g2, r2⟩⟩, hL, ⟨w1, w2, w3, w4, w5⟩⟩ := h
  have far : ∀ j, 32 ≤ j → σ' j = σ j := fun j hj => by
    rw [hs]
    repeat' split
    all_goals first | rfl | omega
  have e3 : ρ 3 = σ 3 := hR 3 (by decide) (by decide) (by simp)
  have s18 : σ' 18 = 0 := hs 18
  refine ⟨⟨fun k h1 h2 h3 => ?_, ⟨?_, ?_⟩, ?_, ⟨m, GT_agree (fun j _ => far (32 + j) (by omega)) g, fun j hj => by rw [far (32 + j) (by omega)]; exact r j hj⟩, ⟨m2, GT_agree (fun j _ => far (49 + j) (by omega)) g2, fun j hj => by rw [far (49 + j) (by omega)]; exact r2 j hj⟩⟩, fun j hj => by rw [far (62 + j) (by omega)]; exact hL j hj, ?_⟩
  · rw [hr, hs, e3]
    have := fun q : ¬ (k = 23 ∨ k = 24) => hR k h1 h2 ⟨h3.1, fun w => absurd w q⟩
    have h22 := h3.1
    clear h3
    repeat' split
    all_goals first | rfl | omega | exact this (by omega)
  · rw [s18]
    show σ' 21 = σ' 26
    exact (hs 21).trans (hs 26).symm
  · have a : σ' 22 = 0 := hs 22
    have b6 : σ' 26 = 0 := hs 26
    have b7 : σ' 27 = 0 := hs 27
    have b8 : σ' 28 = 0 := hs 28
    have b9 : σ' 29 = 0 := hs 29
    have c0 : σ' 30 = 0 := hs 30
    have c1 : σ' 31 = 0 := hs 31
    rw [a, b6, b7, b8, b9, c0, c1]
    rfl
  · obtain ⟨k1, k2, k3, k4, k5, k6, k7, k8, k9, k10⟩ := hK
    have a2 : σ' 2 = σ 2 := hs 2
    have a3 : σ' 3 = σ 3 := hs 3
    have a5 : σ' 5 = σ 5 := hs 5
    have a7 : σ' 7 = σ 7 := hs 7
    have a8 : σ' 8 = σ 8 := hs 8
    have a9 : σ' 9 = σ 9 := hs 9
    have a14 : σ' 14 = σ 14 := hs 14
    have a16 : σ' 16 = σ 3 := hs 16
    have a17 : σ' 17 = ma := hs 17
    have a20 : σ' 20 = 0 := hs 20
    unfold TK
    rw [a2, a3, a5, a7, a8, a9, a14, a16, a17, a20]
    exact ⟨k1, k2, k3, hma, k5, k6, k7, by omega, by decide, k10⟩
  · have a0 : σ' 0 = σ 0 := hs 0
    have a1 : σ' 1 = 1 := hs 1
    have a6 : σ' 6 = σ 6 := hs 6
    unfold WS
    rw [a0, a1, a6, s18, far 62 (by decide), far 63 (by decide)]
    have z : (0 : Int32).toInt = 0 := rfl
    refine ⟨by omega, Or.inr (Or.inl rfl), w3, w4, fun j hj => ?_⟩
    rw [far _ (by omega)]
    exact w5 j hj
theorem charge_eq {N : Nat} {h : Hp} {κ σ β τ : Nat → Int32} (hN : N ≤ 100000) (hC : CI N h κ σ β τ) (ma : Int32) : (S_X9_charge h ma).1 = (S_X10_charge κ σ β ma).1 ∧ CI (N + 1) (S_X9_charge h ma).2 (S_X10_charge κ σ β ma).2.1 (S_X10_charge κ σ β ma).2.2.1 (S_X10_charge κ σ β ma).2.2.2 τ := by
  obtain ⟨R, A, eR, eA, rl, q⟩ := CI_pack hN hC
  unfold S_X9_charge S_X10_charge
  rw [in_eq, eR, hC.rows (k := 1) (by decide) (by decide) (by simp)]
  try dsimp only
  rw [eA]
  clear eR eA
  by_cases c0 : S_X10_in ma 100 1000 = 0
  · rw [if_pos c0, if_pos c0]
    exact ⟨rfl, CI_none rfl rfl hC⟩
  rw [if_neg c0, if_neg c0]
  by_cases c1 : σ 1 = 0
  · rw [if_pos c1, if_pos c1]
    obtain ⟨x1, x2, x3, x4⟩ := L_chg_pt (κ := κ) (σ := σ) (β := β) (κ1 := A.1) (β1 := A.2) (ma := ma) 33 16 16 σ rfl (by decide) (by decide) (by simp)
    generalize L_X10_charge_39 33 κ σ β ma 16 A.1 σ A.2 = X at *
    have b := in_iff c0
    have z1 : (100 : Int32).toInt = 100 := rfl
    have z2 : (1000 : Int32).toInt = 1000 := rfl
    try dsimp only
    refine ⟨?_, ?_⟩
    · rw [x1, batch_pt]
      show R 2 2 = σ 2
      rw [rl 2 (by decide)]
      exact hC.rows (by decide) (by decide) (by simp)
    · rw [x2, x3]
      refine q _ _ (SR_new hC rl (fun hS => ?_)) (fun g hg => va_up_ne _ _ (by omega))
      rw [rl 2 (by decide)]
      exact SR_charge hS (by omega) (fun j => batch_pt j) x4
  · rw [if_neg c1, if_neg c1]
    exact ⟨rfl, CI_none rfl rfl hC⟩
