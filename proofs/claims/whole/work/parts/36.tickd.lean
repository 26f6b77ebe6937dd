theorem crack_pt {σ : Nat → Int32} {A : Nat} {m : Int32} (hA : Int32.toNatClampNeg (26 + (σ 18 - σ 18 / 6 * 6)) = 26 + A) (hA6 : A < 6) (hm : (if (if σ 14 ≤ σ 16 then (σ 16 - σ 14) / 2 + 1 else 0) ≤ 1000 - σ 20 then (if σ 14 ≤ σ 16 then (σ 16 - σ 14) / 2 + 1 else 0) else 1000 - σ 20) = m) (k : Nat) : S_X10_crack σ k = if k = 26 + A then m else if k = 22 then σ 22 + (m - σ (26 + A)) else if k = 20 then σ 20 + m else if k = 21 then m else σ k := by
  unfold S_X10_crack
  rw [hm]
  have e18 : (va_up (va_up σ 21 m) 20 ((va_up σ 21 m) 20 + (va_up σ 21 m) 21)) 18 = σ 18 := rfl
  rw [e18, hA]
  simp only [va_up]
  rw [if_neg (show ¬ 26 + A = 20 by omega), if_neg (show ¬ 26 + A = 21 by omega)]
  by_cases h1 : k = 26 + A
  · rw [if_pos h1, if_pos h1]
    rfl
  · rw [if_neg h1, if_neg h1]
    by_cases h2 : k = 22
    · rw [if_pos h2, if_pos h2]
      rfl
    · rw [if_neg h2, if_neg h2]
      by_cases h3 : k = 20
      · rw [if_pos h3, if_pos h3]
        rfl
      · rw [if_neg h3, if_neg h3]
theorem pop_pt {ρ : Nat → Int32} {A : Nat} {ct m : Int32} (hA : (S_J9_floorMod_7cf53 (ρ 18) 6).toInt = A) (hA6 : A < 6) (hm : (if ρ 16 < ct then (0 : Int32) else S_J9_min_7cf53 (S_J9_floorDiv_7cf53 (ρ 16 - ct) 2 + 1) (1000 - ρ 20)) = m) (k : Nat) : S_X0_pop ρ ct k = if k = 26 + A then m else if k = 20 then ρ 20 + m else ρ k := by
  unfold S_X0_pop
  rw [hm, S_put_in hA hA6 (by decide)]
  simp only [va_up]
  rw [if_neg (show ¬ 20 = 26 + 1 * A by omega), Nat.one_mul]
  by_cases h1 : k = 26 + A
  · rw [if_neg (show ¬ k = 20 by omega), if_pos h1, if_pos h1]
  · rw [if_neg h1, if_neg h1]
theorem sum6 {a b x y m : Int32} (h : a = x + b) (hy : y = m + b) : a + (m - x) = y := by
  subst h hy
  rw [Int32.sub_eq_add_neg, Int32.add_comm x b, Int32.add_comm m (-x), ← Int32.add_assoc, Int32.add_assoc b x (-x), Int32.add_right_neg, Int32.add_zero, Int32.add_comm]
theorem crack_eq {ρ σ : Nat → Int32} (h : RA ρ σ) (hb : -1000 ≤ (σ 16).toInt ∧ (σ 16).toInt ≤ 5000) (hc : 0 ≤ (σ 14).toInt ∧ (σ 14).toInt ≤ 3000) (hp : 0 ≤ (σ 20).toInt ∧ (σ 20).toInt ≤ 1000) (ha : 0 ≤ (σ 18).toInt ∧ (σ 18).toInt ≤ 1000000) (hw : σ 22 = σ 26 + σ 27 + σ 28 + σ 29 + σ 30 + σ 31) : RA (S_X0_pop ρ (ρ 14)) (S_X10_crack σ) ∧ WI (S_X10_crack σ) ∧ (0 ≤ (S_X10_crack σ 20).toInt ∧ (S_X10_crack σ 20).toInt ≤ 1000) := by
  obtain ⟨m, hm⟩ : ∃ m, (if (if σ 14 ≤ σ 16 then (σ 16 - σ 14) / 2 + 1 else 0) ≤ 1000 - σ 20 then (if σ 14 ≤ σ 16 then (σ 16 - σ 14) / 2 + 1 else 0) else 1000 - σ 20) = m := ⟨_, rfl⟩
  have hm2 := (pops_eq hb hc hp).trans hm
  obtain ⟨a1, a2, a3⟩ := age_ix ha
  have cp := crack_pt a3 a2 hm
  have pp := fun k => pop_pt (ρ := ρ) (ct := ρ 14) (m := m) (by rw [h 18 (by decide) (by decide) (by simp)]; exact a1) a2 (by rw [h 16 (by decide) (by decide) (by simp), h 14 (by decide) (by decide) (by simp), h 20 (by decide) (by decide) (by simp)]; exact hm2) k
  have mb : 0 ≤ m.toInt ∧ m.toInt ≤ 1000 - (σ 20).toInt := by
    have e0 : (1000 - σ 20).toInt = 1000 - (σ 20).toInt := tsu (a := 1000) (by show -2147483648 ≤ 1000 - (σ 20).toInt; omega) (by show 1000 - (σ 20).toInt < 2147483648; omega)
    have zx : (0 : Int32).toInt = 0 := rfl
    have nn : 0 ≤ (if σ 14 ≤ σ 16 then (σ 16 - σ 14) / 2 + 1 else 0).toInt := by
      by_cases c : σ 14 ≤ σ 16
      · rw [if_pos c]
        have c2 := Int32.le_iff_toInt_le.mp c
        have e1 : (σ 16 - σ 14).toInt = (σ 16).toInt - (σ 14).toInt := tsu (by omega) (by omega)
        have e2 := dq32 (a := σ 16 - σ 14) (b := 2) (by decide)
        have z2 : (2 : Int32).toInt = 2 := rfl
        rw [e1, z2, Int.tdiv_eq_ediv_of_nonneg (by omega)] at e2
        rw [ta (b := 1) (by rw [e2]; show -2147483648 ≤ ((σ 16).toInt - (σ 14).toInt) / 2 + 1; omega) (by rw [e2]; show ((σ 16).toInt - (σ 14).toInt) / 2 + 1 < 2147483648; omega), e2]
        show 0 ≤ ((σ 16).toInt - (σ 14).toInt) / 2 + 1
        omega
      · rw [if_neg c]
        exact Int.le_refl 0
    generalize (if σ 14 ≤ σ 16 then (σ 16 - σ 14) / 2 + 1 else 0) = y at hm nn
    by_cases c : y ≤ 1000 - σ 20
    · rw [if_pos c] at hm
      have c2 := Int32.le_iff_toInt_le.mp c
      rw [e0] at c2
      rw [← hm]
      exact ⟨nn, c2⟩
    · rw [if_neg c] at hm
      rw [← hm, e0]
      omega
  clear hm hm2 a3 a1
  generalize hA : ((σ 18).toInt % 6).toNat = A at *
  refine ⟨fun k k1 k2 k3 => ?_, ⟨?_, ?_⟩, ?_⟩
  · rw [pp, cp]
    by_cases h1 : k = 26 + A
    · rw [if_pos h1, if_pos h1]
    · rw [if_neg h1, if_neg h1, if_neg k3.1]
      by_cases h2 : k = 20
      · rw [if_pos h2, if_pos h2, h 20 (by decide) (by decide) (by simp)]
      · rw [if_neg h2, if_neg h2, if_neg k2, h k k1 k2 ⟨k3.1, fun q => by
          have b := k3.2 q
          rw [cp 1, if_neg (show ¬ 1 = 26 + A by omega)] at b
          exact b⟩]
  · have e18 : S_X10_crack σ 18 = σ 18 := by rw [cp, if_neg (show ¬ 18 = 26 + A by omega)]; rfl
    rw [e18, hA, cp (26 + A), if_pos rfl, cp 21, if_neg (show ¬ 21 = 26 + A by omega)]
    rfl
  · rw [cp 22, if_neg (show ¬ 22 = 26 + A by omega), if_pos rfl, cp 26, cp 27, cp 28, cp 29, cp 30, cp 31]
    clear pp cp mb
    have hA6 : A = 0 ∨ A = 1 ∨ A = 2 ∨ A = 3 ∨ A = 4 ∨ A = 5 := by omega
    rcases hA6 with rfl | rfl | rfl | rfl | rfl | rfl
    · exact sum6 (x := σ 26) (b := σ 27 + σ 28 + σ 29 + σ 30 + σ 31) (by rw [hw]; ac_rfl) (by show m + σ 27 + σ 28 + σ 29 + σ 30 + σ 31 = _; ac_rfl)
    · exact sum6 (x := σ 27) (b := σ 26 + σ 28 + σ 29 + σ 30 + σ 31) (by rw [hw]; ac_rfl) (by show σ 26 + m + σ 28 + σ 29 + σ 30 + σ 31 = _; ac_rfl)
    · exact sum6 (x := σ 28) (b := σ 26 + σ 27 + σ 29 + σ 30 + σ 31) (by rw [hw]; ac_rfl) (by show σ 26 + σ 27 + m + σ 29 + σ 30 + σ 31 = _; ac_rfl)
    · exact sum6 (x := σ 29) (b := σ 26 + σ 27 + σ 28 + σ 30 + σ 31) (by rw [hw]; ac_rfl) (by show σ 26 + σ 27 + σ 28 + m + σ 30 + σ 31 = _; ac_rfl)
    · exact sum6 (x := σ 30) (b := σ 26 + σ 27 + σ 28 + σ 29 + σ 31) (by rw [hw]; ac_rfl) (by show σ 26 + σ 27 + σ 28 + σ 29 + m + σ 31 = _; ac_rfl)
    · exact sum6 (x := σ 31) (b := σ 26 + σ 27 + σ 28 + σ 29 + σ 30) (by rw [hw]; ac_rfl) (by show σ 26 + σ 27 + σ 28 + σ 29 + σ 30 + m = _; ac_rfl)
  · rw [cp 20, if_neg (show ¬ 20 = 26 + A by omega), if_neg (by decide), if_pos rfl, ta (by omega) (by omega)]
    omega
theorem crack_fr {σ : Nat → Int32} (ha : 0 ≤ (σ 18).toInt ∧ (σ 18).toInt ≤ 1000000) {k : Nat} (h : k < 20 ∨ 23 ≤ k ∧ k < 26 ∨ 32 ≤ k) : S_X10_crack σ k = σ k := by
  obtain ⟨a1, a2, a3⟩ := age_ix ha
  rw [crack_pt a3 a2 rfl, if_neg (show ¬ k = 26 + ((σ 18).toInt % 6).toNat by omega), if_neg (show ¬ k = 22 by omega), if_neg (show ¬ k = 20 by omega), if_neg (show ¬ k = 21 by omega)]
