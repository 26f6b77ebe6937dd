theorem WI_ne {σ σ' : Nat → Int32} (h : ∀ j, j = 18 ∨ (21 ≤ j ∧ j < 32) → σ' j = σ j) (hW : WI σ) : WI σ' := by
  refine ⟨?_, ?_⟩
  · rw [h 21 (by decide), h 18 (by decide), h _ (by omega)]
    exact hW.1
  · rw [h 22 (by decide), h 26 (by decide), h 27 (by decide), h 28 (by decide), h 29 (by decide), h 30 (by decide), h 31 (by decide)]
    exact hW.2
def ENT (Y ρ1 ρ2 : Nat → Int32) (K : Nat) : Prop := Y 0 = ρ1 0 + 1 ∧ Y 1 = S_J9_min_7cf53 (ρ1 1 + 1) 8 ∧ Y 2 = ρ1 0 + 1 ∧ Y 3 = ρ2 18 ∧ Y 4 = ρ2 23 ∧ Y 5 = ρ2 24 ∧ Y 6 = ρ2 19 ∧ Y 7 = ρ2 25 ∧ (∀ j, 8 ≤ j → j ≤ 2 + K → Y j = ρ1 (j - 6)) ∧ ∀ j, 2 + K < j → 8 ≤ j → Y j = ρ1 j
theorem L_enter_pt {ρ ρ2 : Nat → Int32} : ∀ (fu : Nat) (k : Int32) (K : Nat) (ρ1 : Nat → Int32), k.toInt = K → 5 ≤ K → K ≤ 47 → K - 5 < fu → ENT (L_X2_enter_8 fu ρ ρ2 k ρ1) ρ1 ρ2 K := by
  intro fu
  induction fu with
  | zero => intro _ _ _ _ _ _ h; exact absurd h (Nat.not_lt_zero _)
  | succ fu ih =>
    intro k K ρ1 hk h5 hK hf
    unfold L_X2_enter_8
    have z : (6 : Int32).toInt = 6 := rfl
    by_cases c : k < 6
    · have c2 := Int32.lt_iff_toInt_lt.mp c
      rw [hk, z] at c2
      rw [if_pos c]
      dsimp only
      rw [S_put_in (k := 5) (K := 5) rfl (by decide) (by decide), S_put_in (k := 4) (K := 4) rfl (by decide) (by decide), S_put_in (k := 3) (K := 3) rfl (by decide) (by decide), S_put_in (k := 2) (K := 2) rfl (by decide) (by decide), S_put_in (k := 1) (K := 1) rfl (by decide) (by decide), S_put_in (k := 0) (K := 0) rfl (by decide) (by decide)]
      refine ⟨rfl, rfl, rfl, rfl, rfl, rfl, rfl, rfl, fun j h1 h2 => absurd h2 (by omega), fun j h1 h2 => ?_⟩
      rw [va_up_ne _ _ (by omega), va_up_ne _ _ (by omega), va_up_ne _ _ (by omega), va_up_ne _ _ (by omega), va_up_ne _ _ (by omega), va_up_ne _ _ (by omega), va_up_ne _ _ (by omega), va_up_ne _ _ (by omega)]
    · have c2 := nlt c
      rw [hk, z] at c2
      have e6 : (k - 6).toInt = ((K - 6 : Nat) : Int) := by
        rw [tsu (b := 6) (by rw [hk]; show -2147483648 ≤ (K : Int) - 6; omega) (by rw [hk]; show (K : Int) - 6 < 2147483648; omega), hk]
        show (K : Int) - 6 = _
        omega
      have e1 : (k + (-1)).toInt = ((K - 1 : Nat) : Int) := by
        rw [am1 (by rw [hk]; omega), hk]
        omega
      rw [if_neg c, S_put_in hk (by omega) (by decide), S_at_in e6 (by omega) (by decide)]
      dsimp only
      obtain ⟨y0, y1, y2, y3, y4, y5, y6, y7, y8, y9⟩ := ih (k + (-1)) (K - 1) (va_up ρ1 (2 + 1 * K) (ρ1 (2 + 1 * (K - 6)))) e1 (by omega) (by omega) (by omega)
      generalize L_X2_enter_8 fu ρ ρ2 (k + (-1)) (va_up ρ1 (2 + 1 * K) (ρ1 (2 + 1 * (K - 6)))) = Y at *
      rw [va_up_ne _ _ (by omega)] at y0 y1 y2
      refine ⟨y0, y1, y2, y3, y4, y5, y6, y7, fun j h1 h2 => ?_, fun j h1 h2 => ?_⟩
      · by_cases d : j = 2 + K
        · rw [y9 j (by omega) h1, d, show 2 + 1 * K = 2 + K by omega, va_up_self, show 2 + 1 * (K - 6) = 2 + K - 6 by omega]
        · rw [y8 j h1 (by omega), va_up_ne _ _ (by omega)]
      · rw [y9 j (by omega) h2, va_up_ne _ _ (by omega)]
def DRP (Y σ1 : Nat → Int32) (B : Nat) : Prop := Y 5 = S_X10_clamp (σ1 5 + σ1 6) 1 60 ∧ Y 63 = S_X10_clamp (σ1 63 + 1) 0 8 ∧ Y 64 = σ1 62 ∧ Y 65 = σ1 18 ∧ Y 66 = σ1 23 ∧ Y 67 = σ1 24 ∧ Y 68 = σ1 19 ∧ Y 69 = σ1 25 ∧ (∀ j, 70 ≤ j → j ≤ B → Y j = σ1 (j - 6)) ∧ (∀ j, j < 63 → j ≠ 5 → Y j = σ1 j) ∧ ∀ j, B < j → 70 ≤ j → Y j = σ1 j
theorem L_drop_pt {κ σ β κ1 β1 : Nat → Int32} : ∀ (fu : Nat) (aa : Int32) (B : Nat) (σ1 : Nat → Int32), aa.toInt = B → 69 ≤ B → B ≤ 111 → B - 69 < fu → (L_X10_drop_40 fu κ σ β aa κ1 σ1 β1).1 = σ1 19 ∧ (L_X10_drop_40 fu κ σ β aa κ1 σ1 β1).2.1 = κ1 ∧ (L_X10_drop_40 fu κ σ β aa κ1 σ1 β1).2.2.2 = β1 ∧ DRP (L_X10_drop_40 fu κ σ β aa κ1 σ1 β1).2.2.1 σ1 B := by
  intro fu
  induction fu with
  | zero => intro _ _ _ _ _ _ h; exact absurd h (Nat.not_lt_zero _)
  | succ fu ih =>
    intro aa B σ1 hk h5 hK hf
    unfold L_X10_drop_40
    have z : (70 : Int32).toInt = 70 := rfl
    by_cases c : aa < 70
    · have c2 := Int32.lt_iff_toInt_lt.mp c
      rw [hk, z] at c2
      rw [if_pos c]
      refine ⟨rfl, rfl, rfl, rfl, rfl, rfl, rfl, rfl, rfl, rfl, rfl, fun j h1 h2 => absurd h2 (by omega), fun j h1 h2 => ?_, fun j h1 h2 => ?_⟩
      all_goals dsimp only
      all_goals rw [va_up_ne _ _ (by omega), va_up_ne _ _ (by omega), va_up_ne _ _ (by omega), va_up_ne _ _ (by omega), va_up_ne _ _ (by omega), va_up_ne _ _ (by omega), va_up_ne _ _ (by omega), va_up_ne _ _ (by omega)]
    · have c2 := nlt c
      rw [hk, z] at c2
      have e6 : (aa - 6).toInt = ((B - 6 : Nat) : Int) := by
        rw [tsu (b := 6) (by rw [hk]; show -2147483648 ≤ (B : Int) - 6; omega) (by rw [hk]; show (B : Int) - 6 < 2147483648; omega), hk]
        show (B : Int) - 6 = _
        omega
      have e1 : (aa + (-1)).toInt = ((B - 1 : Nat) : Int) := by
        rw [am1 (by rw [hk]; omega), hk]
        omega
      rw [if_neg c, i_eq hk, i_eq e6]
      dsimp only
      obtain ⟨a, b, d, y1, y2, y3, y4, y5, y6, y7, y8, y9, y10, y11⟩ := ih (aa + (-1)) (B - 1) (va_up σ1 B (σ1 (B - 6))) e1 (by omega) (by omega) (by omega)
      generalize L_X10_drop_40 fu κ σ β (aa + (-1)) κ1 (va_up σ1 B (σ1 (B - 6))) β1 = X at *
      have ne : ∀ j, j ≠ B → va_up σ1 B (σ1 (B - 6)) j = σ1 j := fun j hj => va_up_ne _ _ hj
      rw [ne _ (by omega), ne _ (by omega)] at y1
      rw [ne _ (by omega)] at a y2 y3 y4 y5 y6 y7 y8
      refine ⟨a, b, d, y1, y2, y3, y4, y5, y6, y7, y8, fun j h1 h2 => ?_, fun j h1 h2 => ?_, fun j h1 h2 => ?_⟩
      · by_cases q : j = B
        · rw [y11 j (by omega) h1, q, va_up_self]
        · rw [y9 j h1 (by omega), ne _ (by omega)]
      · rw [y10 j h1 h2, ne _ (by omega)]
      · rw [y11 j (by omega) h2, ne _ (by omega)]
theorem lag_new {a b : Int32} (ha : 1 ≤ a.toInt ∧ a.toInt ≤ 60) (hb : 0 ≤ b.toInt ∧ b.toInt ≤ 5) : S_J9_min_7cf53 (a + b) 60 = S_X10_clamp (a + b) 1 60 ∧ 1 ≤ (S_X10_clamp (a + b) 1 60).toInt ∧ (S_X10_clamp (a + b) 1 60).toInt ≤ 60 := by
  have e : (a + b).toInt = a.toInt + b.toInt := ta (by omega) (by omega)
  have z1 : (1 : Int32).toInt = 1 := rfl
  have z60 : (60 : Int32).toInt = 60 := rfl
  generalize a + b = x at e ⊢
  have q := clamp_bd (x := x) (a := 1) (b := 60) (by decide)
  refine ⟨?_, by omega⟩
  unfold S_J9_min_7cf53 S_X10_clamp
  by_cases c : 60 < x
  · have c2 := Int32.lt_iff_toInt_lt.mp c
    rw [if_pos c, if_pos (Int32.le_iff_toInt_le.mpr (by omega)), if_neg (fun d => by have := Int32.le_iff_toInt_le.mp d; omega)]
  · have c2 := nlt c
    rw [if_neg c, if_pos (Int32.le_iff_toInt_le.mpr (by omega)), if_pos (Int32.le_iff_toInt_le.mpr c2)]
theorem log_new {a : Int32} (ha : 0 ≤ a.toInt ∧ a.toInt ≤ 8) : S_J9_min_7cf53 (a + 1) 8 = S_X10_clamp (a + 1) 0 8 ∧ (S_X10_clamp (a + 1) 0 8).toInt = if a.toInt = 8 then 8 else a.toInt + 1 := by
  have z1 : (1 : Int32).toInt = 1 := rfl
  have e : (a + 1).toInt = a.toInt + 1 := ta (b := 1) (by rw [z1]; omega) (by rw [z1]; omega)
  have z0 : (0 : Int32).toInt = 0 := rfl
  have z8 : (8 : Int32).toInt = 8 := rfl
  generalize a + 1 = x at e ⊢
  unfold S_J9_min_7cf53 S_X10_clamp
  by_cases c : 8 < x
  · have c2 := Int32.lt_iff_toInt_lt.mp c
    rw [if_pos c, if_pos (Int32.le_iff_toInt_le.mpr (by omega)), if_neg (fun d => by have := Int32.le_iff_toInt_le.mp d; omega), if_pos (by omega)]
    exact ⟨rfl, z8⟩
  · have c2 := nlt c
    rw [if_neg c, if_pos (Int32.le_iff_toInt_le.mpr (by omega)), if_pos (Int32.le_iff_toInt_le.mpr c2), if_neg (by omega)]
    exact ⟨rfl, e⟩
theorem SR_drop {M : Nat} {ρ π μ ν σ ρ' ρ2 ν' σ' σ1 : Nat → Int32} (hM : M ≤ 100000) (h : SR M ρ π μ ν σ) (hph : σ 1 = 1) (r5 : ρ' 5 = S_J9_min_7cf53 (ρ 5 + ρ 6) 60) (r1 : ρ' 1 = 2) (rr : ∀ j, j ≠ 5 → j ≠ 1 → ρ' j = ρ j) (hv : ENT ν' ν ρ2 47) (hρ2 : ∀ j, 18 ≤ j → ρ2 j = ρ j) (hs : DRP σ' σ1 111) (s1 : σ1 1 = 2) (s62 : σ1 62 = σ 62 + 1) (ss : ∀ j, j ≠ 1 → j ≠ 62 → σ1 j = σ j) : SR (M + 1) ρ' π μ ν' σ' := by
  obtain ⟨⟨hR, hW, hK, ⟨m, g, r⟩, ⟨m2, g2, r2⟩⟩, hL, ⟨w1, w2, w3, w4, w5⟩⟩ := h
  obtain ⟨v0, v1, v2, v3, v4, v5, v6, v7, v8, -⟩ := hv
  obtain ⟨t5, t63, t64, t65, t66, t67, t68, t69, t70, tlo, -⟩ := hs
  rw [ss 5 (by decide) (by decide), ss 6 (by decide) (by decide)] at t5
  rw [ss 63 (by decide) (by decide)] at t63
  rw [s62] at t64
  have same : ∀ j, j ≠ 5 → j ≠ 1 → j < 62 → σ' j = σ j := fun j h5 h1 h62 => by rw [tlo j (by omega) h5, ss j h1 (by omega)]
  have hb := g.2.1
  have hb2 := g2.2.1
  obtain ⟨l1, l2⟩ := lag_new (a := σ 5) (b := σ 6) hK.2.2.2.2.2.1 ⟨w1.2.2.2.1, w1.2.2.2.2⟩
  obtain ⟨n1, n2⟩ := log_new (a := σ 63) w3
  have e5 : ρ 5 = σ 5 := hR 5 (by decide) (by decide) (by simp)
  have e6 : ρ 6 = σ 6 := hR 6 (by decide) (by decide) (by simp)
  have q1 : σ' 1 = 2 := by rw [tlo 1 (by decide) (by decide)]; exact s1
  have q62 : σ' 62 = σ 62 + 1 := by rw [tlo 62 (by decide) (by decide)]; exact s62
  have d62 : (σ 62 + 1).toInt = (σ 62).toInt + 1 := ta (b := 1) (by show -2147483648 ≤ (σ 62).toInt + 1; omega) (by show (σ 62).toInt + 1 < 2147483648; omega)
  refine ⟨⟨fun k h1 h2 h3 => ?_, WI_ne (fun j hj => same j (by omega) (by omega) (by omega)) hW, ?_, ⟨m, GT_agree (fun j hj => same (32 + j) (by omega) (by omega) (by omega)) g, fun j hj => by rw [same (32 + j) (by omega) (by omega) (by omega)]; exact r j hj⟩, ⟨m2, GT_agree (fun j hj => same (49 + j) (by omega) (by omega) (by omega)) g2, fun j hj => by rw [same (49 + j) (by omega) (by omega) (by omega)]; exact r2 j hj⟩⟩, fun j hj => ?_, ?_⟩
  · by_cases c5 : k = 5
    · rw [c5, r5, t5, e5, e6]
      exact l1
    · by_cases c1 : k = 1
      · rw [c1, r1, q1]
      · rw [rr k c5 c1, same k c5 c1 (by omega)]
        exact hR k h1 h2 ⟨h3.1, fun _ => by rw [hph]; decide⟩
  · obtain ⟨k1, k2, k3, k4, k5, k6, k7, k8, k9, k10⟩ := hK
    unfold TK
    rw [same 9 (by decide) (by decide) (by simp), same 7 (by decide) (by decide) (by simp), same 3 (by decide) (by decide) (by simp), same 17 (by decide) (by decide) (by simp), same 8 (by decide) (by decide) (by simp), same 2 (by decide) (by decide) (by simp), same 16 (by decide) (by decide) (by simp), same 20 (by decide) (by decide) (by simp), same 14 (by decide) (by decide) (by simp), t5]
    exact ⟨k1, k2, k3, k4, k5, l2, k7, k8, k9, k10⟩
  · have u0 : ν 0 = σ 62 := hL 0 (by decide)
    have u1 : ν 1 = σ 63 := hL 1 (by decide)
    rcases (show j = 0 ∨ j = 1 ∨ j = 2 ∨ j = 3 ∨ j = 4 ∨ j = 5 ∨ j = 6 ∨ j = 7 ∨ 8 ≤ j by omega) with rfl | rfl | rfl | rfl | rfl | rfl | rfl | rfl | h8
    · rw [v0, u0]; exact q62.symm
    · rw [v1, u1, n1]; exact t63.symm
    · rw [v2, u0]; exact t64.symm
    · rw [v3, hρ2 18 (by decide), hR 18 (by decide) (by decide) (by simp), ← ss 18 (by decide) (by decide)]; exact t65.symm
    · rw [v4, hρ2 23 (by decide), hR 23 (by decide) (by decide) ⟨by decide, fun _ => by rw [hph]; decide⟩, ← ss 23 (by decide) (by decide)]; exact t66.symm
    · rw [v5, hρ2 24 (by decide), hR 24 (by decide) (by decide) ⟨by decide, fun _ => by rw [hph]; decide⟩, ← ss 24 (by decide) (by decide)]; exact t67.symm
    · rw [v6, hρ2 19 (by decide), hR 19 (by decide) (by decide) (by simp), ← ss 19 (by decide) (by decide)]; exact t68.symm
    · rw [v7, hρ2 25 (by decide), hR 25 (by decide) (by decide) (by simp), ← ss 25 (by decide) (by decide)]; exact t69.symm
    · rw [v8 j h8 (by omega), t70 (62 + j) (by omega) (by omega), hL (j - 6) (by omega), ss _ (by omega) (by omega)]
      congr 1
      omega
  · unfold WS
    rw [same 0 (by decide) (by decide) (by simp), same 6 (by decide) (by decide) (by simp), same 18 (by decide) (by decide) (by simp), q1, q62, t63, d62, n2]
    refine ⟨w1, Or.inr (Or.inr rfl), by split <;> omega, by split <;> omega, fun j hj => ?_⟩
    cases j with
    | zero =>
      show (σ' 64).toInt = _
      rw [t64, d62]
      show (σ 62).toInt + 1 = (σ 62).toInt + 1 - 0
      omega
    | succ j =>
      have j8 : (j : Int) < (σ 63).toInt ∧ j ≤ 6 := by
        split at hj
        all_goals omega
      have q : σ' (64 + 6 * (j + 1)) = σ (64 + 6 * j) := by
        rw [t70 _ (by omega) (by omega), ss _ (by omega) (by omega)]
        congr 1
      rw [q, w5 j j8.1]
      omega
theorem drop_eq {N : Nat} {h : Hp} {κ σ β τ : Nat → Int32} (hN : N ≤ 100000) (hC : CI N h κ σ β τ) : (S_X9_drop h).1 = (S_X10_drop κ σ β).1 ∧ CI (N + 1) (S_X9_drop h).2 (S_X10_drop κ σ β).2.1 (S_X10_drop κ σ β).2.2.1 (S_X10_drop κ σ β).2.2.2 τ := by
  obtain ⟨R, A, eR, eA, rl, q⟩ := CI_pack hN hC
  unfold S_X9_drop S_X10_drop
  rw [eR, hC.rows (k := 1) (by decide) (by decide) (by simp)]
  dsimp only
  rw [eA]
  clear eR eA
  by_cases c1 : σ 1 = 1
  · rw [if_pos c1, if_neg (fun c => (roasting_iff σ).mp c c1)]
    obtain ⟨s, es⟩ : ∃ s, va_up (va_up σ 1 2) 62 (va_up σ 1 2 62 + 1) = s := ⟨_, rfl⟩
    obtain ⟨ρ2, eρ⟩ : ∃ r, va_up (R 2) 1 2 = r := ⟨_, rfl⟩
    obtain ⟨x1, x2, x3, x4⟩ := L_drop_pt (κ := κ) (σ := σ) (β := β) (κ1 := A.1) (β1 := A.2) 43 111 111 s rfl (by decide) (by decide) (by simp)
    have en := L_enter_pt (ρ := R 5) (ρ2 := ρ2) 43 (48 - 1) 47 (R 5) rfl (by decide) (by decide) (by simp)
    unfold S_X2_enter
    rw [es, eρ]
    generalize L_X10_drop_40 43 κ σ β 111 A.1 s A.2 = X at *
    generalize L_X2_enter_8 43 (R 5) ρ2 (48 - 1) (R 5) = Y at *
    rw [rl 5 (by decide)] at en
    rw [rl 2 (by decide)] at eρ
    refine ⟨?_, ?_⟩
    · rw [x1, ← es, ← eρ]
      show h 2 19 = σ 19
      exact hC.rows (by decide) (by decide) (by simp)
    · rw [x2, x3]
      refine q _ _ ?_ (fun g hg => (va_up_ne _ _ (show g ≠ 2 by omega)).trans (va_up_ne _ _ (show g ≠ 5 by omega)))
      dsimp only
      rw [va_up_self, va_up_ne _ _ (show 3 ≠ 2 by decide), va_up_ne _ _ (show 4 ≠ 2 by decide), va_up_ne _ _ (show 5 ≠ 2 by decide), va_up_ne _ _ (show 3 ≠ 5 by decide), va_up_ne _ _ (show 4 ≠ 5 by decide), va_up_self, rl 3 (by decide), rl 4 (by decide)]
      subst es
      subst eρ
      exact SR_drop hN hC.1 c1 rfl rfl (fun j h5 h1 => (va_up_ne _ _ h5).trans (va_up_ne _ _ h1)) en (fun j hj => va_up_ne _ _ (by omega)) x4 rfl rfl (fun j h1 h2 => (va_up_ne _ _ h2).trans (va_up_ne _ _ h1))
  · rw [if_neg c1, if_pos ((roasting_iff σ).mpr c1)]
    exact ⟨rfl, CI_none rfl rfl hC⟩
