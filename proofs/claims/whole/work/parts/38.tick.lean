theorem TK_ne {σ : Nat → Int32} {k : Nat} {v : Int32} (h : k ≠ 2 ∧ k ≠ 3 ∧ k ≠ 5 ∧ k ≠ 7 ∧ k ≠ 8 ∧ k ≠ 9 ∧ k ≠ 14 ∧ k ≠ 16 ∧ k ≠ 17 ∧ k ≠ 20) (hK : TK σ) : TK (va_up σ k v) := TK_congr (fun j hj => va_up_ne _ _ (by omega)) hK
theorem TK_2 {σ : Nat → Int32} {v : Int32} (hv : -1000 ≤ v.toInt ∧ v.toInt ≤ 5000) (hK : TK σ) : TK (va_up σ 2 v) := by
  obtain ⟨k1, k2, k3, k4, k5, k6, k7, k8, k9, k10⟩ := hK
  exact ⟨k1, k2, k3, k4, k5, k6, hv, k8, k9, k10⟩
theorem TK_16 {σ : Nat → Int32} {v : Int32} (hv : -1000 ≤ v.toInt ∧ v.toInt ≤ 5000) (hK : TK σ) : TK (va_up σ 16 v) := by
  obtain ⟨k1, k2, k3, k4, k5, k6, k7, k8, k9, k10⟩ := hK
  exact ⟨k1, k2, k3, k4, k5, k6, k7, hv, k9, k10⟩
theorem drum_eq {ρ σ : Nat → Int32} (h : RA ρ σ) : RA (va_up ρ 2 (ρ 2 + S_J9_floorDiv_7cf53 (8 * ρ 7 - S_J9_floorDiv_7cf53 (ρ 2 - ρ 3) 5) 10)) (va_up σ 2 (σ 2 + S_X10_down (8 * σ 7 - S_X10_down (σ 2 - σ 3) 5) 10)) := RA_up h (by rw [fd_dn (b := 5) (by decide), fd_dn (b := 10) (by decide), h 2 (by decide) (by decide) (by simp), h 7 (by decide) (by decide) (by simp), h 3 (by decide) (by decide) (by simp)])
theorem probe_eq {ρ σ : Nat → Int32} {v : Int32} (h : RA ρ σ) (hl : 0 < (σ 5).toInt) (hv : (if ρ 1 = 1 then ρ 16 else ρ 2) = v) : RA (S_X4_moveProbe ρ) (va_up σ 4 (σ 4 + S_X10_down (v - σ 4) (σ 5))) := by
  unfold S_X4_moveProbe
  rw [hv]
  exact RA_up h (by rw [h 4 (by decide) (by decide) (by simp), h 5 (by decide) (by decide) (by simp), quo32 hl])
theorem max_eq {a b c d : Int32} (h1 : a = c) (h2 : b = d) : S_J9_max_7cf53 a b = if d ≤ c then c else d := by
  subst h1 h2
  unfold S_J9_max_7cf53
  by_cases q : a < b
  · rw [if_pos q, if_neg (Int32.not_le.mpr q)]
  · rw [if_neg q, if_pos (Int32.not_lt.mp q)]
/-- a tick while no batch roasts -/
theorem tick_idle {ρ π μ σ : Nat → Int32} (h : RA ρ σ) (hK : TK σ) (hp : ¬ σ 1 = 1) : RA (S_X4_tick ρ π μ) (S_X10_tick σ) ∧ TK (S_X10_tick σ) ∧ S_X10_tick σ 0 = σ 0 + 1 ∧ ∀ k, k ≠ 0 → k ≠ 2 → k ≠ 4 → k ≠ 16 → S_X10_tick σ k = σ k := by
  have hr : S_X10_isRoasting σ = 0 := (roasting_iff σ).mpr hp
  obtain ⟨k1, k2, k3, k4, k5, k6, k7, k8, k9, k10⟩ := hK
  have hK : TK σ := ⟨k1, k2, k3, k4, k5, k6, k7, k8, k9, k10⟩
  obtain ⟨s1, es1⟩ : ∃ x, T_X10_tick_r1 σ = x := ⟨_, rfl⟩
  obtain ⟨c1, ec1⟩ : ∃ x, T_X4_tick_r1 ρ π μ = x := ⟨_, rfl⟩
  have d1 : s1 = va_up σ 0 (σ 0 + 1) := es1.symm
  have f1 : c1 = va_up ρ 0 (ρ 0 + 1) := ec1.symm
  have R1 : RA c1 s1 := by rw [d1, f1]; exact RA_up h (by rw [h 0 (by decide) (by decide) (by simp)])
  have K1 : TK s1 := by rw [d1]; exact TK_ne (by decide) hK
  have Z1 : s1 0 = σ 0 + 1 := by rw [d1, va_up_self]
  have F1 : ∀ k, k ≠ 0 → s1 k = σ k := fun k h0 => by rw [d1, va_up_ne _ _ h0]
  have pc1 : ¬ c1 1 = 1 := by rw [R1 1 (by decide) (by decide) (by simp), F1 1 (by decide)]; exact hp
  obtain ⟨s7, es7⟩ : ∃ x, T_X10_tick_m7 σ = x := ⟨_, rfl⟩
  have d7 : s7 = s1 := by
    rw [← es7]
    unfold T_X10_tick_m7 T_X10_tick_r5 T_X10_tick_m3
    rw [if_pos hr, if_pos hr, es1, Int32.add_zero, va_up_id]
  obtain ⟨c3, ec3⟩ : ∃ x, T_X4_tick_m3 ρ π μ = x := ⟨_, rfl⟩
  have f3 : c3 = c1 := by
    rw [← ec3]
    unfold T_X4_tick_m3
    rw [ec1, if_neg pc1]
  subst d7 f3
  obtain ⟨s10, es10⟩ : ∃ x, T_X10_tick_r10 σ = x := ⟨_, rfl⟩
  have d10 : s10 = va_up s7 2 (s7 2 + S_X10_down (8 * s7 7 - S_X10_down (s7 2 - s7 3) 5) 10) := by
    rw [← es10]
    unfold T_X10_tick_r10
    rw [es7]
  obtain ⟨c7, ec7⟩ : ∃ x, T_X4_tick_r7 ρ π μ = x := ⟨_, rfl⟩
  have f7 : c7 = va_up c3 2 (c3 2 + S_J9_floorDiv_7cf53 (8 * c3 7 - S_J9_floorDiv_7cf53 (c3 2 - c3 3) 5) 10) := by
    rw [← ec7]
    unfold T_X4_tick_r7 S_X4_moveDrum
    rw [ec3]
    rw [if_neg (show ¬ (va_up c3 2 (c3 2 + S_J9_floorDiv_7cf53 (8 * c3 7 - S_J9_floorDiv_7cf53 (c3 2 - c3 3) 5) 10)) 1 = 1 from pc1)]
  have R10 : RA c7 s10 := by rw [d10, f7]; exact drum_eq R1
  have K10 : TK s10 := by
    rw [d10]
    refine TK_2 ?_ K1
    rw [drum1_t K1.2.2.2.2.2.2.1 K1.2.2.1 K1.2.1]
    exact (drum_bd (b := 0) (m := 0) (y := 0) K1.2.2.2.2.2.2.1 (by decide) K1.2.2.1 K1.2.1 rfl (by decide) (by omega)).1
  have F10 : ∀ k, k ≠ 0 → k ≠ 2 → s10 k = σ k := fun k h0 h2 => by rw [d10, va_up_ne _ _ h2, F1 k h0]
  have Z10 : s10 0 = σ 0 + 1 := by rw [d10, va_up_ne _ _ (by decide), Z1]
  clear d10 f7 R1 K1 F1
  obtain ⟨s12, es12⟩ : ∃ x, T_X10_tick_m12 σ = x := ⟨_, rfl⟩
  obtain ⟨c9, ec9⟩ : ∃ x, T_X4_tick_m9 ρ π μ = x := ⟨_, rfl⟩
  have R12 : RA c9 s12 ∧ TK s12 ∧ s12 0 = σ 0 + 1 ∧ ∀ k, k ≠ 0 → k ≠ 2 → k ≠ 16 → s12 k = σ k := by
    rw [← es12, ← ec9]
    unfold T_X10_tick_m12 T_X4_tick_m9
    rw [es10, ec7, if_pos hr, if_neg (show ¬ c7 1 = 1 by rw [R10 1 (by decide) (by decide) (by simp), F10 1 (by decide) (by decide)]; exact hp)]
    rw [R10 1 (by decide) (by decide) (by simp), R10 3 (by decide) (by decide) (by simp), R10 8 (by decide) (by decide) (by simp)]
    by_cases c : s10 1 = 2
    · rw [if_pos c, if_pos c]
      refine ⟨?_, TK_16 (cool_t K10.2.2.2.2.2.2.2.1 K10.2.2.1 K10.2.2.2.2.1) K10, by rw [va_up_ne _ _ (by decide), Z10], fun k h0 h2 h16 => by rw [va_up_ne _ _ h16, F10 k h0 h2]⟩
      unfold S_X0_cool
      exact RA_up R10 (by rw [fd_dn (b := 100) (by decide), R10 16 (by decide) (by decide) (by simp)])
    · rw [if_neg c, if_neg c]
      exact ⟨R10, K10, Z10, fun k h0 h2 _ => F10 k h0 h2⟩
  obtain ⟨R12, K12, Z12, F12⟩ := R12
  have es29 : S_X10_tick σ = va_up s12 4 (s12 4 + S_X10_down (s12 2 - s12 4) (s12 5)) := by
    unfold S_X10_tick T_X10_tick_m29 T_X10_tick_r27 T_X10_tick_m25
    rw [if_pos hr, if_pos hr, es12]
  have q1 : ¬ c9 1 = 1 := by rw [R12 1 (by decide) (by decide) (by simp), F12 1 (by decide) (by decide) (by simp)]; exact hp
  have ec18 : S_X4_tick ρ π μ = S_X4_moveProbe c9 := by
    unfold S_X4_tick T_X4_tick_m18 T_X4_tick_r16
    rw [ec9, if_neg (show ¬ S_X4_moveProbe c9 1 = 1 from q1)]
  rw [es29, ec18]
  refine ⟨probe_eq R12 (by have := K12.2.2.2.2.2.1.1; omega) (by rw [if_neg q1, R12 2 (by decide) (by decide) (by simp)]), TK_ne (by decide) K12, by rw [va_up_ne _ _ (by decide), Z12], fun k h0 h2 h4 h16 => by rw [va_up_ne _ _ h4, F12 k h0 h2 h16]⟩
/-- a tick while a batch roasts -/
theorem tick_roast {ρ π μ σ : Nat → Int32} (h : RA ρ σ) (hK : TK σ) (hW : WI σ) (hp : σ 1 = 1) (ha : 0 ≤ (σ 18).toInt ∧ (σ 18).toInt ≤ 500000) (h0 : π 0 = σ 32) (hv : ∀ σ' : Nat → Int32, (∀ k, 32 ≤ k → σ' k = σ k) → ∀ t : Int32, -100000 ≤ t.toInt ∧ t.toInt ≤ 1000000 → ¬ σ 32 = 0 → S_X6_valueOnLine π 8 t = S_X10_targetAt σ' t ∧ ¬ S_X10_targetAt σ' t = (-100009)) (hz : ∀ (σ' : Nat → Int32) t, σ' 32 = 0 → S_X10_targetAt σ' t = (-100009)) (hl : ∀ σ' : Nat → Int32, (∀ k, 32 ≤ k → σ' k = σ k) → ∀ key : Int32, -100000 ≤ key.toInt → key.toInt ≤ 100000 → S_X6_valueBelow μ 6 key = S_X10_rateAt σ' key) : RA (S_X4_tick ρ π μ) (S_X10_tick σ) ∧ TK (S_X10_tick σ) ∧ WI (S_X10_tick σ) ∧ S_X10_tick σ 18 = σ 18 + 1 ∧ S_X10_tick σ 0 = σ 0 + 1 ∧ ∀ k, k = 1 ∨ k = 3 ∨ k = 5 ∨ k = 6 ∨ k = 8 ∨ k = 9 ∨ k = 10 ∨ k = 11 ∨ k = 12 ∨ k = 14 ∨ k = 15 ∨ k = 17 ∨ 32 ≤ k → S_X10_tick σ k = σ k := by
  have hr : ¬ S_X10_isRoasting σ = 0 := fun c => (roasting_iff σ).mp c hp
  obtain ⟨s1, es1⟩ : ∃ x, T_X10_tick_r1 σ = x := ⟨_, rfl⟩
  obtain ⟨c1, ec1⟩ : ∃ x, T_X4_tick_r1 ρ π μ = x := ⟨_, rfl⟩
  have d1 : s1 = va_up σ 0 (σ 0 + 1) := es1.symm
  have f1 : c1 = va_up ρ 0 (ρ 0 + 1) := ec1.symm
  have R1 : RA c1 s1 := by rw [d1, f1]; exact RA_up h (by rw [h 0 (by decide) (by decide) (by simp)])
  have K1 : TK s1 := by rw [d1]; exact TK_ne (by decide) hK
  have F1 : ∀ k, k ≠ 0 → s1 k = σ k := fun k h0 => by rw [d1, va_up_ne _ _ h0]
  have Z1 : s1 0 = σ 0 + 1 := by rw [d1, va_up_self]
  clear d1 f1
  obtain ⟨s5, es5⟩ : ∃ x, T_X10_tick_r5 σ = x := ⟨_, rfl⟩
  have d5 : s5 = va_up s1 18 (s1 18 + 1) := by
    rw [← es5]
    unfold T_X10_tick_r5 T_X10_tick_m3
    rw [if_neg hr, es1]
  obtain ⟨c4, ec4⟩ : ∃ x, va_up c1 18 (c1 18 + 1) = x := ⟨_, rfl⟩
  have R5 : RA c4 s5 := by rw [d5, ← ec4]; exact RA_up R1 (by rw [R1 18 (by decide) (by decide) (by simp)])
  have K5 : TK s5 := by rw [d5]; exact TK_ne (by decide) K1
  have F5 : ∀ k, k ≠ 0 → k ≠ 18 → s5 k = σ k := fun k h0 h1 => by rw [d5, va_up_ne _ _ h1, F1 k h0]
  have Z5 : s5 0 = σ 0 + 1 := by rw [d5, va_up_ne _ _ (by decide), Z1]
  have A5 : s5 18 = σ 18 + 1 := by rw [d5, va_up_self, F1 18 (by decide)]
  have A5i : (s5 18).toInt = (σ 18).toInt + 1 := by
    rw [A5, ta (b := 1) (by show -2147483648 ≤ (σ 18).toInt + 1; omega) (by show (σ 18).toInt + 1 < 2147483648; omega)]
    rfl
  clear d5
  obtain ⟨s7, es7⟩ : ∃ x, T_X10_tick_m7 σ = x := ⟨_, rfl⟩
  have d7 : s7 = S_X10_control s5 := by
    rw [← es7]
    unfold T_X10_tick_m7
    rw [if_neg hr, es5]
  obtain ⟨c3, ec3⟩ : ∃ x, T_X4_tick_m3 ρ π μ = x := ⟨_, rfl⟩
  have f3 : c3 = S_X4_steer c4 π := by
    rw [← ec3]
    unfold T_X4_tick_m3
    rw [ec1, if_pos (show c1 1 = 1 by rw [R1 1 (by decide) (by decide) (by simp), F1 1 (by decide)]; exact hp), ec4]
  have R7 : RA c3 s7 := by
    rw [d7, f3]
    refine steer_eq R5 K5.1 (by rw [F5 32 (by decide) (by decide)]; exact h0) (fun ht => ?_) (fun t ht => hz _ t ht)
    exact hv s5 (fun k hk => F5 k (by omega) (by omega)) _ (by rw [A5i]; omega) (by rw [← F5 32 (by decide) (by decide)]; exact ht)
  have F7 : ∀ k, k ≠ 0 → k ≠ 18 → k ≠ 13 → k ≠ 7 → s7 k = σ k := fun k h0 h1 h2 h3 => by rw [d7, control_fr h2 h3, F5 k h0 h1]
  have Z7 : s7 0 = σ 0 + 1 := by rw [d7, control_fr (by decide) (by decide), Z5]
  have A7 : s7 18 = s5 18 := by rw [d7, control_fr (by decide) (by decide)]
  have K7 : TK s7 := by
    obtain ⟨k1, k2, k3, k4, k5, k6, k7, k8, k9, k10⟩ := K5
    have g : ∀ k, k ≠ 13 → k ≠ 7 → s7 k = s5 k := fun k h1 h2 => by rw [d7, control_fr h1 h2]
    have pw := control_pw k2
    rw [← d7] at pw
    unfold TK
    rw [g 9 (by decide) (by decide), g 3 (by decide) (by decide), g 17 (by decide) (by decide), g 8 (by decide) (by decide), g 5 (by decide) (by decide), g 2 (by decide) (by decide), g 16 (by decide) (by decide), g 20 (by decide) (by decide), g 14 (by decide) (by decide)]
    exact ⟨k1, pw, k3, k4, k5, k6, k7, k8, k9, k10⟩
  clear d7 f3
  obtain ⟨s10, es10⟩ : ∃ x, T_X10_tick_r10 σ = x := ⟨_, rfl⟩
  have d10 : s10 = va_up s7 2 (s7 2 + S_X10_down (8 * s7 7 - S_X10_down (s7 2 - s7 3) 5) 10) := by
    rw [← es10]
    unfold T_X10_tick_r10
    rw [es7]
  obtain ⟨c6, ec6⟩ : ∃ x, va_up c3 2 (c3 2 + S_J9_floorDiv_7cf53 (8 * c3 7 - S_J9_floorDiv_7cf53 (c3 2 - c3 3) 5) 10) = x := ⟨_, rfl⟩
  have R10 : RA c6 s10 := by rw [d10, ← ec6]; exact drum_eq R7
  have p6 : c6 1 = 1 := by rw [← ec6, va_up_ne _ _ (by decide), R7 1 (by decide) (by decide) (by simp), F7 1 (by decide) (by decide) (by decide) (by simp)]; exact hp
  have K10 : TK s10 := by
    rw [d10]
    refine TK_2 ?_ K7
    rw [drum1_t K7.2.2.2.2.2.2.1 K7.2.2.1 K7.2.1]
    exact (drum_bd (b := 0) (m := 0) (y := 0) K7.2.2.2.2.2.2.1 (by decide) K7.2.2.1 K7.2.1 rfl (by decide) (by omega)).1
  have F10 : ∀ k, k ≠ 0 → k ≠ 18 → k ≠ 13 → k ≠ 7 → k ≠ 2 → s10 k = σ k := fun k h0 h1 h2 h3 h4 => by rw [d10, va_up_ne _ _ h4, F7 k h0 h1 h2 h3]
  have Z10 : s10 0 = σ 0 + 1 := by rw [d10, va_up_ne _ _ (by decide), Z7]
  have A10 : s10 18 = s5 18 := by rw [d10, va_up_ne _ _ (by decide), A7]
  have D10 : (s10 2).toInt = (s7 2).toInt + (8 * (s7 7).toInt - ((s7 2).toInt - (s7 3).toInt) / 5) / 10 := by
    rw [d10, va_up_self, drum1_t K7.2.2.2.2.2.2.1 K7.2.2.1 K7.2.1]
  have E10 : s10 16 = s7 16 := by rw [d10, va_up_ne _ _ (by decide)]
  clear d10
  obtain ⟨s15, es15⟩ : ∃ x, va_up s10 2 (s10 2 - S_X10_down ((s7 2 - s10 16) * s10 17) 20000) = x := ⟨_, rfl⟩
  obtain ⟨c7, ec7⟩ : ∃ x, T_X4_tick_r7 ρ π μ = x := ⟨_, rfl⟩
  have f7 : c7 = va_up c6 2 (c6 2 - S_J9_floorDiv_7cf53 ((c3 2 - c6 16) * c6 17) 20000) := by
    rw [← ec7]
    unfold T_X4_tick_r7 S_X4_moveDrum
    rw [ec3, ec6, if_pos p6]
  have R15 : RA c7 s15 := by
    rw [f7, ← es15]
    exact RA_up R10 (by rw [fd_dn (b := 20000) (by decide), R7 2 (by decide) (by decide) (by simp), R10 2 (by decide) (by decide) (by simp), R10 16 (by decide) (by decide) (by simp), R10 17 (by decide) (by decide) (by simp)])
  have K15 : TK s15 := by
    rw [← es15]
    refine TK_2 ?_ K10
    have b2 := K7.2.2.2.2.2.2.1
    have b16 := K10.2.2.2.2.2.2.2.1
    have b17 := K10.2.2.2.1
    have e1 : (s7 2 - s10 16).toInt = (s7 2).toInt - (s10 16).toInt := tsu (by omega) (by omega)
    have e2 := down_ml (x := s7 2 - s10 16) (m := s10 17) (K := 20000) (M := 1000) (D := 20000) (by rw [e1]; omega) b17 (by decide) (by decide) rfl
    rw [e1] at e2
    have q := (drum_bd b2 b16 K7.2.2.1 K7.2.1 D10 b17 e2).2
    have b10 := K10.2.2.2.2.2.2.1
    generalize S_X10_down ((s7 2 - s10 16) * s10 17) 20000 = y at q ⊢
    rw [tsu (by omega) (by omega)]
    exact q
  have F15 : ∀ k, k ≠ 0 → k ≠ 18 → k ≠ 13 → k ≠ 7 → k ≠ 2 → s15 k = σ k := fun k h0 h1 h2 h3 h4 => by rw [← es15, va_up_ne _ _ h4, F10 k h0 h1 h2 h3 h4]
  have Z15 : s15 0 = σ 0 + 1 := by rw [← es15, va_up_ne _ _ (by decide), Z10]
  have A15 : s15 18 = s5 18 := by rw [← es15, va_up_ne _ _ (by decide), A10]
  have f7e := f7
  clear f7
  obtain ⟨s16, es16⟩ : ∃ x, va_up s15 16 (s15 16 + S_X10_down (s15 2 - s15 16) 20) = x := ⟨_, rfl⟩
  obtain ⟨c11, ec11⟩ : ∃ x, va_up c7 16 (c7 16 + S_J9_floorDiv_7cf53 (c7 2 - c7 16) 20) = x := ⟨_, rfl⟩
  have R16 : RA c11 s16 := by
    rw [← ec11, ← es16]
    exact RA_up R15 (by rw [fd_dn (b := 20) (by decide), R15 2 (by decide) (by decide) (by simp), R15 16 (by decide) (by decide) (by simp)])
  have K16 : TK s16 := by
    rw [← es16]
    exact TK_16 (bean_t K15.2.2.2.2.2.2.2.1 K15.2.2.2.2.2.2.1) K15
  have F16 : ∀ k, k ≠ 0 → k ≠ 18 → k ≠ 13 → k ≠ 7 → k ≠ 2 → k ≠ 16 → s16 k = σ k := fun k h0 h1 h2 h3 h4 h5 => by rw [← es16, va_up_ne _ _ h5, F15 k h0 h1 h2 h3 h4]
  have Z16 : s16 0 = σ 0 + 1 := by rw [← es16, va_up_ne _ _ (by decide), Z15]
  have A16 : s16 18 = s5 18 := by rw [← es16, va_up_ne _ _ (by decide), A15]
  obtain ⟨s20, es20⟩ : ∃ x, va_up s16 25 (if s16 16 ≤ s16 25 then s16 25 else s16 16) = x := ⟨_, rfl⟩
  obtain ⟨c12, ec12⟩ : ∃ x, va_up c11 25 (S_J9_max_7cf53 (c11 25) (c11 16)) = x := ⟨_, rfl⟩
  have R20 : RA c12 s20 := by
    rw [← ec12, ← es20]
    exact RA_up R16 (max_eq (R16 25 (by decide) (by decide) (by simp)) (R16 16 (by decide) (by decide) (by simp)))
  have K20 : TK s20 := by rw [← es20]; exact TK_ne (by decide) K16
  have F20 : ∀ k, k ≠ 0 → k ≠ 18 → k ≠ 13 → k ≠ 7 → k ≠ 2 → k ≠ 16 → k ≠ 25 → s20 k = σ k := fun k h0 h1 h2 h3 h4 h5 h6 => by rw [← es20, va_up_ne _ _ h6, F16 k h0 h1 h2 h3 h4 h5]
  have Z20 : s20 0 = σ 0 + 1 := by rw [← es20, va_up_ne _ _ (by decide), Z16]
  have A20 : s20 18 = s5 18 := by rw [← es20, va_up_ne _ _ (by decide), A16]
  have W20 : s20 22 = s20 26 + s20 27 + s20 28 + s20 29 + s20 30 + s20 31 := by
    have n1 : ∀ k : Nat, 22 ≤ k ∧ k ≠ 25 → k ≠ 0 ∧ k ≠ 18 ∧ k ≠ 13 ∧ k ≠ 7 ∧ k ≠ 2 ∧ k ≠ 16 ∧ k ≠ 25 := fun k hk => by
      clear D10 A5i E10
      omega
    have f : ∀ k : Nat, 22 ≤ k ∧ k ≠ 25 → s20 k = σ k := fun k hk => by
      obtain ⟨q1, q2, q3, q4, q5, q6, q7⟩ := n1 k hk
      exact F20 k q1 q2 q3 q4 q5 q6 q7
    rw [f 22 (by decide), f 26 (by decide), f 27 (by decide), f 28 (by decide), f 29 (by decide), f 30 (by decide), f 31 (by decide)]
    exact hW.2
  have H20 : 0 ≤ (s20 18).toInt ∧ (s20 18).toInt ≤ 1000000 := by
    rw [A20, A5i]
    clear D10
    omega
  obtain ⟨s21, es21⟩ : ∃ x, S_X10_crack s20 = x := ⟨_, rfl⟩
  obtain ⟨c13, ec13⟩ : ∃ x, S_X0_pop c12 (c12 14) = x := ⟨_, rfl⟩
  obtain ⟨R21, W21, P21⟩ := crack_eq R20 K20.2.2.2.2.2.2.2.1 K20.2.2.2.2.2.2.2.2.2 K20.2.2.2.2.2.2.2.2.1 H20 W20
  have G21 : ∀ k, (k < 20 ∨ 23 ≤ k ∧ k < 26 ∨ 32 ≤ k) → s21 k = s20 k := fun k hk => by rw [← es21]; exact crack_fr H20 hk
  rw [es21, ec13] at R21
  rw [es21] at W21 P21
  have K21 : TK s21 := by
    obtain ⟨k1, k2, k3, k4, k5, k6, k7, k8, k9, k10⟩ := K20
    unfold TK
    rw [G21 9 (by decide), G21 3 (by decide), G21 17 (by decide), G21 8 (by decide), G21 5 (by decide), G21 2 (by decide), G21 16 (by decide), G21 14 (by decide), G21 7 (by decide)]
    exact ⟨k1, k2, k3, k4, k5, k6, k7, k8, P21, k10⟩
  obtain ⟨s12, es12⟩ : ∃ x, T_X10_tick_m12 σ = x := ⟨_, rfl⟩
  have d12 : s12 = va_up s21 19 (s21 19 + S_X10_rateAt s21 (s21 16)) := by
    rw [← es12]
    unfold T_X10_tick_m12
    rw [if_neg hr, es10, es7]
    dsimp only
    rw [es15, es16, es20, es21]
  obtain ⟨c9, ec9⟩ : ∃ x, T_X4_tick_m9 ρ π μ = x := ⟨_, rfl⟩
  have f9 : c9 = va_up c13 19 (c13 19 + S_X6_valueBelow μ 6 (c13 16)) := by
    rw [← ec9]
    unfold T_X4_tick_m9 S_X0_roast
    rw [ec7, if_pos (show c7 1 = 1 by rw [R15 1 (by decide) (by decide) (by simp), F15 1 (by decide) (by decide) (by decide) (by decide) (by simp)]; exact hp), ec11, ec12]
    dsimp only
    rw [ec13]
  have R12 : RA c9 s12 := by
    rw [d12, f9]
    refine RA_up R21 ?_
    rw [R21 19 (by decide) (by decide) (by simp), R21 16 (by decide) (by decide) (by simp)]
    have b := K21.2.2.2.2.2.2.2.1
    have q := hl s21 (fun k hk => by
      rw [G21 k (Or.inr (Or.inr hk))]
      have n : k ≠ 0 ∧ k ≠ 18 ∧ k ≠ 13 ∧ k ≠ 7 ∧ k ≠ 2 ∧ k ≠ 16 ∧ k ≠ 25 := by
        clear D10 A5i E10 b
        omega
      obtain ⟨q1, q2, q3, q4, q5, q6, q7⟩ := n
      exact F20 k q1 q2 q3 q4 q5 q6 q7) (s21 16) (by clear D10; omega) (by clear D10; omega)
    rw [q]
  have K12 : TK s12 := by rw [d12]; exact TK_ne (by decide) K21
  have W12 : WI s12 := by
    rw [d12]
    generalize s21 19 + S_X10_rateAt s21 (s21 16) = v
    refine ⟨?_, W21.2⟩
    have e : va_up s21 19 v 18 = s21 18 := rfl
    rw [e]
    have n : 26 + ((s21 18).toInt % 6).toNat ≠ 19 := by
      clear D10
      omega
    rw [va_up_ne _ _ n]
    exact W21.1
  have Z12 : s12 0 = σ 0 + 1 := by rw [d12, va_up_ne _ _ (by decide), G21 0 (by decide), Z20]
  have A12 : s12 18 = σ 18 + 1 := by rw [d12, va_up_ne _ _ (by decide), G21 18 (by decide), A20, A5]
  have F12 : ∀ k, k = 1 ∨ k = 3 ∨ k = 5 ∨ k = 6 ∨ k = 8 ∨ k = 9 ∨ k = 10 ∨ k = 11 ∨ k = 12 ∨ k = 14 ∨ k = 15 ∨ k = 17 ∨ 32 ≤ k → s12 k = σ k := fun k hk => by
    have n : (k ≠ 19 ∧ (k < 20 ∨ 23 ≤ k ∧ k < 26 ∨ 32 ≤ k)) ∧ k ≠ 0 ∧ k ≠ 18 ∧ k ≠ 13 ∧ k ≠ 7 ∧ k ≠ 2 ∧ k ≠ 16 ∧ k ≠ 25 := by
      clear D10 A5i E10
      omega
    obtain ⟨⟨q0, qg⟩, q1, q2, q3, q4, q5, q6, q7⟩ := n
    rw [d12, va_up_ne _ _ q0, G21 k qg]
    exact F20 k q1 q2 q3 q4 q5 q6 q7
  clear d12 f9
  have es29 : S_X10_tick σ = S_X10_detect (va_up s12 4 (s12 4 + S_X10_down (s12 16 - s12 4) (s12 5))) := by
    unfold S_X10_tick T_X10_tick_m29 T_X10_tick_r27 T_X10_tick_m25
    rw [if_neg hr, if_neg hr, es12]
  have q1 : c9 1 = 1 := by rw [R12 1 (by decide) (by decide) (by simp), F12 1 (by decide)]; exact hp
  have ec18 : S_X4_tick ρ π μ = S_X0_lookForCrack (S_X4_moveProbe c9) (S_X4_moveProbe c9 15) := by
    unfold S_X4_tick T_X4_tick_m18 T_X4_tick_r16
    rw [ec9, if_pos (show S_X4_moveProbe c9 1 = 1 from q1)]
  have R27 := probe_eq (v := s12 16) R12 (by have := K12.2.2.2.2.2.1.1; clear D10; omega) (by rw [if_pos q1, R12 16 (by decide) (by decide) (by simp)])
  rw [es29, ec18]
  obtain ⟨s27, es27⟩ : ∃ x, va_up s12 4 (s12 4 + S_X10_down (s12 16 - s12 4) (s12 5)) = x := ⟨_, rfl⟩
  rw [es27] at R27 ⊢
  have G27 : ∀ k, k ≠ 4 → s27 k = s12 k := fun k hk => by rw [← es27, va_up_ne _ _ hk]
  have W27 : WI s27 := by
    refine ⟨?_, ?_⟩
    · rw [G27 21 (by decide), G27 18 (by decide)]
      have n : 26 + ((s12 18).toInt % 6).toNat ≠ 4 := by
        clear D10
        omega
      rw [G27 _ n]
      exact W12.1
    · rw [G27 22 (by decide), G27 26 (by decide), G27 27 (by decide), G27 28 (by decide), G27 29 (by decide), G27 30 (by decide), G27 31 (by decide)]
      exact W12.2
  refine ⟨detect_eq R27 W27.2 (by rw [G27 1 (by decide), F12 1 (by decide), hp]; decide), ?_, ?_, ?_, by rw [detect_fr (by decide) (by decide), G27 0 (by decide), Z12], fun k hk => ?_⟩
  · refine TK_congr (fun k hk => ?_) K12
    have n : k ≠ 23 ∧ k ≠ 24 ∧ k ≠ 4 := by
      clear D10
      omega
    rw [detect_fr n.1 n.2.1, G27 k n.2.2]
  · refine ⟨?_, ?_⟩
    · rw [detect_fr (by decide) (by decide), detect_fr (k := 18) (by decide) (by decide)]
      have n : 26 + ((s27 18).toInt % 6).toNat ≠ 23 ∧ 26 + ((s27 18).toInt % 6).toNat ≠ 24 := by
        clear D10
        omega
      rw [detect_fr n.1 n.2]
      exact W27.1
    · rw [detect_fr (by decide) (by decide), detect_fr (k := 26) (by decide) (by decide), detect_fr (k := 27) (by decide) (by decide), detect_fr (k := 28) (by decide) (by decide), detect_fr (k := 29) (by decide) (by decide), detect_fr (k := 30) (by decide) (by decide), detect_fr (k := 31) (by decide) (by decide)]
      exact W27.2
  · rw [detect_fr (by decide) (by decide), G27 18 (by decide), A12]
  · have n : k ≠ 23 ∧ k ≠ 24 ∧ k ≠ 4 := by
      clear D10
      omega
    rw [detect_fr n.1 n.2.1, G27 k n.2.2, F12 k hk]
