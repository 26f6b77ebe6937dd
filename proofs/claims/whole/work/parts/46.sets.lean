theorem setAmbient_eq {N : Nat} {h : Hp} {κ σ β τ : Nat → Int32} (hN : N ≤ 100000) (hC : CI N h κ σ β τ) (am : Int32) : (S_X9_setAmbient h am).1 = (S_X10_setAmbient κ σ β am).1 ∧ CI (N + 1) (S_X9_setAmbient h am).2 (S_X10_setAmbient κ σ β am).2.1 (S_X10_setAmbient κ σ β am).2.2.1 (S_X10_setAmbient κ σ β am).2.2.2 τ := by
  obtain ⟨R, A, eR, eA, rl, q⟩ := CI_pack hN hC
  unfold S_X9_setAmbient S_X10_setAmbient S_X10_put
  rw [in_eq, eR]
  dsimp only
  rw [eA]
  clear eR eA
  by_cases c : S_X10_in am 0 400 = 0
  · rw [if_pos c, if_pos c]
    exact ⟨rfl, CI_none rfl rfl hC⟩
  · rw [if_neg c, if_neg c]
    show R 2 3 = σ 3 ∧ CI (N + 1) (va_up R 2 (va_up (R 2) 3 am)) A.1 (va_up σ 3 am) A.2 τ
    refine ⟨?_, q _ _ (SR_new hC rl (fun hS => ?_)) (fun g hg => va_up_ne _ _ (by omega))⟩
    · rw [rl 2 (by decide)]
      exact hC.rows (by decide) (by decide) (by simp)
    · rw [rl 2 (by decide)]
      refine SR_set hS (by decide) ?_
      obtain ⟨k1, k2, k3, k4, k5, k6, k7, k8, k9, k10⟩ := hC.1.1.2.2.1
      exact ⟨k1, k2, in_iff c, k4, k5, k6, k7, k8, k9, k10⟩
theorem setFan_eq {N : Nat} {h : Hp} {κ σ β τ : Nat → Int32} (hN : N ≤ 100000) (hC : CI N h κ σ β τ) (fa : Int32) : (S_X9_setFan h fa).1 = (S_X10_setFan κ σ β fa).1 ∧ CI (N + 1) (S_X9_setFan h fa).2 (S_X10_setFan κ σ β fa).2.1 (S_X10_setFan κ σ β fa).2.2.1 (S_X10_setFan κ σ β fa).2.2.2 τ := by
  obtain ⟨R, A, eR, eA, rl, q⟩ := CI_pack hN hC
  unfold S_X9_setFan S_X10_setFan S_X10_put
  rw [in_eq, eR]
  dsimp only
  rw [eA]
  clear eR eA
  by_cases c : S_X10_in fa 1 50 = 0
  · rw [if_pos c, if_pos c]
    exact ⟨rfl, CI_none rfl rfl hC⟩
  · rw [if_neg c, if_neg c]
    show R 2 8 = σ 8 ∧ CI (N + 1) (va_up R 2 (va_up (R 2) 8 fa)) A.1 (va_up σ 8 fa) A.2 τ
    refine ⟨?_, q _ _ (SR_new hC rl (fun hS => ?_)) (fun g hg => va_up_ne _ _ (by omega))⟩
    · rw [rl 2 (by decide)]
      exact hC.rows (by decide) (by decide) (by simp)
    · rw [rl 2 (by decide)]
      refine SR_set hS (by decide) ?_
      obtain ⟨k1, k2, k3, k4, k5, k6, k7, k8, k9, k10⟩ := hC.1.1.2.2.1
      exact ⟨k1, k2, k3, k4, in_iff c, k6, k7, k8, k9, k10⟩
theorem TK_at {σ : Nat → Int32} {k : Nat} {v : Int32} (hK : TK σ) (h : (k = 5 → 1 ≤ v.toInt ∧ v.toInt ≤ 60) ∧ (k = 9 → v = 0 ∨ v = 1) ∧ (k = 14 → 0 ≤ v.toInt ∧ v.toInt ≤ 3000)) (hk : k = 5 ∨ k = 6 ∨ k = 9 ∨ k = 10 ∨ k = 11 ∨ k = 12 ∨ k = 13 ∨ k = 14 ∨ k = 15) : TK (va_up σ k v) := by
  obtain ⟨k1, k2, k3, k4, k5, k6, k7, k8, k9, k10⟩ := hK
  rcases hk with rfl | rfl | rfl | rfl | rfl | rfl | rfl | rfl | rfl
  · exact ⟨k1, k2, k3, k4, k5, h.1 rfl, k7, k8, k9, k10⟩
  · exact ⟨k1, k2, k3, k4, k5, k6, k7, k8, k9, k10⟩
  · exact ⟨h.2.1 rfl, k2, k3, k4, k5, k6, k7, k8, k9, k10⟩
  · exact ⟨k1, k2, k3, k4, k5, k6, k7, k8, k9, k10⟩
  · exact ⟨k1, k2, k3, k4, k5, k6, k7, k8, k9, k10⟩
  · exact ⟨k1, k2, k3, k4, k5, k6, k7, k8, k9, k10⟩
  · exact ⟨k1, k2, k3, k4, k5, k6, k7, k8, k9, k10⟩
  · exact ⟨k1, k2, k3, k4, k5, k6, k7, k8, k9, h.2.2 rfl⟩
  · exact ⟨k1, k2, k3, k4, k5, k6, k7, k8, k9, k10⟩
theorem SR_at {M : Nat} {ρ π μ ν σ : Nat → Int32} {k : Nat} {v : Int32} (hS : SR M ρ π μ ν σ) (h : (k = 5 → 1 ≤ v.toInt ∧ v.toInt ≤ 60) ∧ (k = 9 → v = 0 ∨ v = 1) ∧ (k = 14 → 0 ≤ v.toInt ∧ v.toInt ≤ 3000)) (hk : k = 5 ∨ k = 6 ∨ k = 9 ∨ k = 10 ∨ k = 11 ∨ k = 12 ∨ k = 13 ∨ k = 14 ∨ k = 15) (h6 : k = 6 → 0 ≤ v.toInt ∧ v.toInt ≤ 5 := by intro e; exact absurd e (by decide)) : SR M (va_up ρ k v) π μ ν (va_up σ k v) := SR_set hS (by omega) (TK_at hS.1.2.2.1 h hk) h6
theorem on01 {x : Int32} (h : (0 : Int32).toInt ≤ x.toInt ∧ x.toInt ≤ (1 : Int32).toInt) : x = 0 ∨ x = 1 := by
  have a : (0 : Int32).toInt = 0 := rfl
  have b : (1 : Int32).toInt = 1 := rfl
  rw [a, b] at h
  rcases (show x.toInt = 0 ∨ x.toInt = 1 by omega) with e | e
  · exact Or.inl (Int32.toInt_inj.mp e)
  · exact Or.inr (Int32.toInt_inj.mp e)
theorem ct_bd {x : Int32} (h : (1500 : Int32).toInt ≤ x.toInt ∧ x.toInt ≤ (2300 : Int32).toInt) : 0 ≤ x.toInt ∧ x.toInt ≤ 3000 := by
  have a : (1500 : Int32).toInt = 1500 := rfl
  have b : (2300 : Int32).toInt = 2300 := rfl
  omega
theorem setProbe_eq {N : Nat} {h : Hp} {κ σ β τ : Nat → Int32} (hN : N ≤ 100000) (hC : CI N h κ σ β τ) (la fo : Int32) : (S_X9_setProbe h la fo).1 = (S_X10_setProbe κ σ β la fo).1 ∧ CI (N + 1) (S_X9_setProbe h la fo).2 (S_X10_setProbe κ σ β la fo).2.1 (S_X10_setProbe κ σ β la fo).2.2.1 (S_X10_setProbe κ σ β la fo).2.2.2 τ := by
  obtain ⟨R, A, eR, eA, rl, q⟩ := CI_pack hN hC
  unfold S_X9_setProbe S_X10_setProbe S_X10_put
  rw [in_eq, in_eq, eR]
  dsimp only
  rw [eA]
  clear eR eA
  by_cases c0 : S_X10_in la 1 60 = 0
  · rw [if_pos c0, if_pos c0]
    exact ⟨rfl, CI_none rfl rfl hC⟩
  rw [if_neg c0, if_neg c0]
  by_cases c1 : S_X10_in fo 0 5 = 0
  · rw [if_pos c1, if_pos c1]
    exact ⟨rfl, CI_none rfl rfl hC⟩
  rw [if_neg c1, if_neg c1]
  have r5 : R 2 5 = σ 5 := by rw [rl 2 (by decide)]; exact hC.rows (by decide) (by decide) (by simp)
  have r6 : R 2 6 = σ 6 := by rw [rl 2 (by decide)]; exact hC.rows (by decide) (by decide) (by simp)
  show R 2 5 = σ 5 ∧ CI (N + 1) (va_up R 2 (va_up (va_up (R 2) 5 la) 6 fo)) A.1 (va_up (va_up σ 5 la) 6 fo) A.2 τ
  refine ⟨r5, ?_⟩
  refine q _ _ (SR_new hC rl (fun hS => ?_)) (fun g hg => va_up_ne _ _ (by omega))
  rw [rl 2 (by decide)]
  exact SR_at (SR_at (hS) ⟨fun _ => in_iff c0, fun e => absurd e (by decide), fun e => absurd e (by decide)⟩ (by decide)) ⟨fun e => absurd e (by decide), fun e => absurd e (by decide), fun e => absurd e (by decide)⟩ (by decide) (fun _ => in_iff c1)
theorem setCrack_eq {N : Nat} {h : Hp} {κ σ β τ : Nat → Int32} (hN : N ≤ 100000) (hC : CI N h κ σ β τ) (te th : Int32) : (S_X9_setCrack h te th).1 = (S_X10_setCrack κ σ β te th).1 ∧ CI (N + 1) (S_X9_setCrack h te th).2 (S_X10_setCrack κ σ β te th).2.1 (S_X10_setCrack κ σ β te th).2.2.1 (S_X10_setCrack κ σ β te th).2.2.2 τ := by
  obtain ⟨R, A, eR, eA, rl, q⟩ := CI_pack hN hC
  unfold S_X9_setCrack S_X10_setCrack
  rw [in_eq, in_eq, eR]
  dsimp only
  rw [eA]
  clear eR eA
  by_cases c0 : S_X10_in te 1500 2300 = 0
  · rw [if_pos c0, if_pos c0]
    exact ⟨rfl, CI_none rfl rfl hC⟩
  rw [if_neg c0, if_neg c0]
  by_cases c1 : S_X10_in th 1 600 = 0
  · rw [if_pos c1, if_pos c1]
    exact ⟨rfl, CI_none rfl rfl hC⟩
  rw [if_neg c1, if_neg c1]
  have r14 : R 2 14 = σ 14 := by rw [rl 2 (by decide)]; exact hC.rows (by decide) (by decide) (by simp)
  have r15 : R 2 15 = σ 15 := by rw [rl 2 (by decide)]; exact hC.rows (by decide) (by decide) (by simp)
  rw [r14, r15]
  refine ⟨rfl, ?_⟩
  show CI (N + 1) (va_up R 2 (va_up (va_up (R 2) 14 te) 15 th)) A.1 (va_up (va_up σ 14 te) 15 th) A.2 τ
  refine q _ _ (SR_new hC rl (fun hS => ?_)) (fun g hg => va_up_ne _ _ (by omega))
  rw [rl 2 (by decide)]
  exact SR_at (SR_at (hS) ⟨fun e => absurd e (by decide), fun e => absurd e (by decide), fun _ => ct_bd (in_iff c0)⟩ (by decide)) ⟨fun e => absurd e (by decide), fun e => absurd e (by decide), fun e => absurd e (by decide)⟩ (by decide)
theorem setController_eq {N : Nat} {h : Hp} {κ σ β τ : Nat → Int32} (hN : N ≤ 100000) (hC : CI N h κ σ β τ) (on pp ii bi : Int32) : (S_X9_setController h on pp ii bi).1 = (S_X10_setController κ σ β on pp ii bi).1 ∧ CI (N + 1) (S_X9_setController h on pp ii bi).2 (S_X10_setController κ σ β on pp ii bi).2.1 (S_X10_setController κ σ β on pp ii bi).2.2.1 (S_X10_setController κ σ β on pp ii bi).2.2.2 τ := by
  obtain ⟨R, A, eR, eA, rl, q⟩ := CI_pack hN hC
  unfold S_X9_setController S_X10_setController
  rw [in_eq, in_eq, in_eq, in_eq, eR]
  dsimp only
  rw [eA]
  clear eR eA
  by_cases c0 : S_X10_in on 0 1 = 0
  · rw [if_pos c0, if_pos c0]
    exact ⟨rfl, CI_none rfl rfl hC⟩
  rw [if_neg c0, if_neg c0]
  by_cases c1 : S_X10_in pp 0 200 = 0
  · rw [if_pos c1, if_pos c1]
    exact ⟨rfl, CI_none rfl rfl hC⟩
  rw [if_neg c1, if_neg c1]
  by_cases c2 : S_X10_in ii 0 200 = 0
  · rw [if_pos c2, if_pos c2]
    exact ⟨rfl, CI_none rfl rfl hC⟩
  rw [if_neg c2, if_neg c2]
  by_cases c3 : S_X10_in bi 0 100 = 0
  · rw [if_pos c3, if_pos c3]
    exact ⟨rfl, CI_none rfl rfl hC⟩
  rw [if_neg c3, if_neg c3]
  have r9 : R 2 9 = σ 9 := by rw [rl 2 (by decide)]; exact hC.rows (by decide) (by decide) (by simp)
  have r10 : R 2 10 = σ 10 := by rw [rl 2 (by decide)]; exact hC.rows (by decide) (by decide) (by simp)
  have r11 : R 2 11 = σ 11 := by rw [rl 2 (by decide)]; exact hC.rows (by decide) (by decide) (by simp)
  have r12 : R 2 12 = σ 12 := by rw [rl 2 (by decide)]; exact hC.rows (by decide) (by decide) (by simp)
  rw [r9, r10, r11, r12]
  refine ⟨rfl, ?_⟩
  show CI (N + 1) (va_up R 2 (va_up (va_up (va_up (va_up (R 2) 9 on) 10 pp) 11 ii) 12 bi)) A.1 (va_up (va_up (va_up (va_up σ 9 on) 10 pp) 11 ii) 12 bi) A.2 τ
  refine q _ _ (SR_new hC rl (fun hS => ?_)) (fun g hg => va_up_ne _ _ (by omega))
  rw [rl 2 (by decide)]
  exact SR_at (SR_at (SR_at (SR_at (hS) ⟨fun e => absurd e (by decide), fun _ => on01 (in_iff c0), fun e => absurd e (by decide)⟩ (by decide)) ⟨fun e => absurd e (by decide), fun e => absurd e (by decide), fun e => absurd e (by decide)⟩ (by decide)) ⟨fun e => absurd e (by decide), fun e => absurd e (by decide), fun e => absurd e (by decide)⟩ (by decide)) ⟨fun e => absurd e (by decide), fun e => absurd e (by decide), fun e => absurd e (by decide)⟩ (by decide)
