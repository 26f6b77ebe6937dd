/-- five rows written: a kept state's four, and the history's -/
def U4 (h : Hp) (g : Nat) (a b c d e : Nat → Int32) : Hp := va_up (va_up (va_up (va_up (va_up h (g + 1) a) (g + 2) b) (g + 3) c) (g + 4) d) 10 e
theorem U4_10 (h : Hp) (g : Nat) (a b c d e : Nat → Int32) : U4 h g a b c d e 10 = e := va_up_self _ _ _
theorem U4_in {h : Hp} {g : Nat} {a b c d e : Nat → Int32} (hg : 11 ≤ g) : U4 h g a b c d e (g + 1) = a ∧ U4 h g a b c d e (g + 2) = b ∧ U4 h g a b c d e (g + 3) = c ∧ U4 h g a b c d e (g + 4) = d := by
  unfold U4
  refine ⟨?_, ?_, ?_, ?_⟩
  · rw [va_up_ne _ _ (show g + 1 ≠ 10 by omega), va_up_ne _ _ (show g + 1 ≠ g + 4 by omega), va_up_ne _ _ (show g + 1 ≠ g + 3 by omega), va_up_ne _ _ (show g + 1 ≠ g + 2 by omega), va_up_self]
  · rw [va_up_ne _ _ (show g + 2 ≠ 10 by omega), va_up_ne _ _ (show g + 2 ≠ g + 4 by omega), va_up_ne _ _ (show g + 2 ≠ g + 3 by omega), va_up_self]
  · rw [va_up_ne _ _ (show g + 3 ≠ 10 by omega), va_up_ne _ _ (show g + 3 ≠ g + 4 by omega), va_up_self]
  · rw [va_up_ne _ _ (show g + 4 ≠ 10 by omega), va_up_self]
theorem U4_out {h : Hp} {g : Nat} {a b c d e : Nat → Int32} {k : Nat} (h1 : k ≠ 10) (h2 : k < g + 1 ∨ g + 4 < k) : U4 h g a b c d e k = h k := by
  unfold U4
  rw [va_up_ne _ _ h1, va_up_ne _ _ (show k ≠ g + 4 by omega), va_up_ne _ _ (show k ≠ g + 3 by omega), va_up_ne _ _ (show k ≠ g + 2 by omega), va_up_ne _ _ (show k ≠ g + 1 by omega)]
def SG (M : Nat) (h : Hp) (g : Nat) (σ : Nat → Int32) : Prop := SR M (h (g + 1)) (h (g + 2)) (h (g + 3)) (h (g + 4)) σ
/-- the kept states alike -/
def KS (N : Nat) (h : Hp) (κ β : Nat → Int32) : Prop := h 10 1 = κ 1 ∧ ∃ n o : Nat, (κ 1).toInt = n ∧ n ≤ 5 ∧ (h 10 0).toInt = o ∧ o ≤ N ∧ ∀ i, i < n → SG N h (11 + 5 * ((o + i) % 5)) (fun j => β (112 * i + j))
theorem slot_pt {ρ : Nat → Int32} {st : Int32} {o s : Nat} (h0 : (ρ 0).toInt = o) (ho : o ≤ 1000000) (hs : st.toInt = s) (h5 : s ≤ 5) : S_X1_slot ρ st = (o + s) % 5 := by
  unfold S_X1_slot
  have e := fm32 (a := ρ 0 + st) (b := 5) (by decide)
  have z : (5 : Int32).toInt = 5 := rfl
  rw [z, ta (by rw [h0, hs]; omega) (by rw [h0, hs]; omega), h0, hs] at e
  exact i_eq (by rw [e]; omega)
theorem remember_lo {h : Hp} (hn : ¬ h 10 1 = 5) : ∃ a b c d, S_X1_remember h = U4 h (11 + 5 * S_X1_slot (h 10) (h 10 1)) a b c d (va_up (h 10) 1 (h 10 1 + 1)) ∧ ∀ M σ, SR M (h 2) (h 3) (h 4) (h 5) σ → SR M a b c d σ := by
  refine ⟨(S_X7_copyFrom (h (11 + 5 * S_X1_slot (h 10) (h 10 1) + 1)) (h (11 + 5 * S_X1_slot (h 10) (h 10 1) + 2)) (h (11 + 5 * S_X1_slot (h 10) (h 10 1) + 3)) (h (11 + 5 * S_X1_slot (h 10) (h 10 1) + 4)) (h 2) (h 3) (h 4) (h 5) 8 6).1, (S_X7_copyFrom (h (11 + 5 * S_X1_slot (h 10) (h 10 1) + 1)) (h (11 + 5 * S_X1_slot (h 10) (h 10 1) + 2)) (h (11 + 5 * S_X1_slot (h 10) (h 10 1) + 3)) (h (11 + 5 * S_X1_slot (h 10) (h 10 1) + 4)) (h 2) (h 3) (h 4) (h 5) 8 6).2.1, (S_X7_copyFrom (h (11 + 5 * S_X1_slot (h 10) (h 10 1) + 1)) (h (11 + 5 * S_X1_slot (h 10) (h 10 1) + 2)) (h (11 + 5 * S_X1_slot (h 10) (h 10 1) + 3)) (h (11 + 5 * S_X1_slot (h 10) (h 10 1) + 4)) (h 2) (h 3) (h 4) (h 5) 8 6).2.2.1, (S_X7_copyFrom (h (11 + 5 * S_X1_slot (h 10) (h 10 1) + 1)) (h (11 + 5 * S_X1_slot (h 10) (h 10 1) + 2)) (h (11 + 5 * S_X1_slot (h 10) (h 10 1) + 3)) (h (11 + 5 * S_X1_slot (h 10) (h 10 1) + 4)) (h 2) (h 3) (h 4) (h 5) 8 6).2.2.2, ?_, fun M σ hs => SR_copy hs⟩
  unfold S_X1_remember
  rw [if_neg hn]
  rfl
theorem remember_hi {h : Hp} (hn : h 10 1 = 5) {m2 : Nat → Int32} (hm : va_up (va_up (h 10) 0 (h 10 0 + 1)) 1 4 = m2) : ∃ a b c d, S_X1_remember h = U4 h (11 + 5 * S_X1_slot m2 (m2 1)) a b c d (va_up m2 1 (m2 1 + 1)) ∧ ∀ M σ, SR M (h 2) (h 3) (h 4) (h 5) σ → SR M a b c d σ := by
  refine ⟨(S_X7_copyFrom (h (11 + 5 * S_X1_slot m2 (m2 1) + 1)) (h (11 + 5 * S_X1_slot m2 (m2 1) + 2)) (h (11 + 5 * S_X1_slot m2 (m2 1) + 3)) (h (11 + 5 * S_X1_slot m2 (m2 1) + 4)) (h 2) (h 3) (h 4) (h 5) 8 6).1, (S_X7_copyFrom (h (11 + 5 * S_X1_slot m2 (m2 1) + 1)) (h (11 + 5 * S_X1_slot m2 (m2 1) + 2)) (h (11 + 5 * S_X1_slot m2 (m2 1) + 3)) (h (11 + 5 * S_X1_slot m2 (m2 1) + 4)) (h 2) (h 3) (h 4) (h 5) 8 6).2.1, (S_X7_copyFrom (h (11 + 5 * S_X1_slot m2 (m2 1) + 1)) (h (11 + 5 * S_X1_slot m2 (m2 1) + 2)) (h (11 + 5 * S_X1_slot m2 (m2 1) + 3)) (h (11 + 5 * S_X1_slot m2 (m2 1) + 4)) (h 2) (h 3) (h 4) (h 5) 8 6).2.2.1, (S_X7_copyFrom (h (11 + 5 * S_X1_slot m2 (m2 1) + 1)) (h (11 + 5 * S_X1_slot m2 (m2 1) + 2)) (h (11 + 5 * S_X1_slot m2 (m2 1) + 3)) (h (11 + 5 * S_X1_slot m2 (m2 1) + 4)) (h 2) (h 3) (h 4) (h 5) 8 6).2.2.2, ?_, fun M σ hs => SR_copy hs⟩
  unfold S_X1_remember
  rw [if_pos hn]
  have e : va_up (va_up (h 10) 0 (h 10 0 + 1)) 1 (va_up (h 10) 0 (h 10 0 + 1) 1 - 1) = m2 := by
    rw [← hm, va_up_ne _ _ (show (1 : Nat) ≠ 0 by decide), hn]
    rfl
  dsimp only
  rw [e]
  rfl
theorem remember_eq {h : Hp} {κ σ β : Nat → Int32} {N : Nat} (hN : N ≤ 100000) (hS : SR N (h 2) (h 3) (h 4) (h 5) σ) (hH : KS N h κ β) : KS (N + 1) (S_X1_remember h) (S_X10_act κ σ β).1 (S_X10_act κ σ β).2 ∧ (∀ g, g < 10 → S_X1_remember h g = h g) ∧ ∀ k, k ≠ 1 → (S_X10_act κ σ β).1 k = κ k := by
  obtain ⟨e1, n, o, en, hn5, eo, hoN, hK⟩ := hH
  by_cases c : n = 5
  · subst c
    have k5 : h 10 1 = 5 := by rw [e1]; exact Int32.toInt_inj.mp en
    obtain ⟨m2, hm⟩ : ∃ m2, va_up (va_up (h 10) 0 (h 10 0 + 1)) 1 4 = m2 := ⟨_, rfl⟩
    obtain ⟨a, b, c, d, er, hc⟩ := remember_hi k5 hm
    obtain ⟨q1, q2⟩ := act_hi (σ := σ) (β := β) en
    have m0 : (m2 0).toInt = ((o + 1 : Nat) : Int) := by
      rw [← hm, va_up_ne _ _ (show (0 : Nat) ≠ 1 by decide), va_up_self, ta (b := 1) (by rw [eo]; show -2147483648 ≤ (o : Int) + 1; omega) (by rw [eo]; show (o : Int) + 1 < 2147483648; omega), eo]
      rfl
    have m1 : m2 1 = 4 := by rw [← hm, va_up_self]
    have es := slot_pt (st := m2 1) (s := 4) m0 (by omega) (by rw [m1]; rfl) (by decide)
    rw [er, q1, es]
    refine ⟨⟨?_, 5, o + 1, en, Nat.le_refl _, ?_, by omega, fun i hi => ?_⟩, fun g hg => U4_out (by omega) (by omega), fun k _ => rfl⟩
    · rw [U4_10, va_up_self, m1, ← e1, k5]
      rfl
    · rw [U4_10, va_up_ne _ _ (show (0 : Nat) ≠ 1 by decide)]
      exact m0
    · by_cases f : i = 4
      · subst f
        obtain ⟨u1, u2, u3, u4⟩ := U4_in (h := h) (g := 11 + 5 * ((o + 1 + 4) % 5)) (a := a) (b := b) (c := c) (d := d) (e := va_up m2 1 (m2 1 + 1)) (by omega)
        unfold SG
        rw [u1, u2, u3, u4]
        refine SR_congr (fun j hj => ?_) (hc _ σ (SR_mono hS))
        show (S_X10_act κ σ β).2 (112 * 4 + j) = σ j
        rw [q2, if_pos (by omega), show 112 * 4 + j - 448 = j by omega]
      · unfold SG
        rw [U4_out (by omega) (by omega), U4_out (by omega) (by omega), U4_out (by omega) (by omega), U4_out (by omega) (by omega)]
        have w := hK (i + 1) (by omega)
        rw [show o + (i + 1) = o + 1 + i by omega] at w
        refine SR_congr (fun j hj => ?_) (SR_mono w)
        show (S_X10_act κ σ β).2 (112 * i + j) = β (112 * (i + 1) + j)
        rw [q2, if_neg (by omega), if_pos (by omega)]
        congr 1
        omega
  · have k5 : ¬ h 10 1 = 5 := fun q => c (by
      rw [← e1, q] at en
      have : (5 : Int32).toInt = 5 := rfl
      omega)
    obtain ⟨a, b, c', d, er, hc⟩ := remember_lo k5
    obtain ⟨q1, q2⟩ := act_lo (σ := σ) (β := β) en (by omega)
    have es := slot_pt (ρ := h 10) (st := h 10 1) (s := n) eo (by omega) (by rw [e1]; exact en) hn5
    rw [er, q1, es]
    refine ⟨⟨?_, n + 1, o, ?_, by omega, ?_, by omega, fun i hi => ?_⟩, fun g hg => U4_out (by omega) (by omega), fun k hk => va_up_ne _ _ hk⟩
    · rw [U4_10, va_up_self, va_up_self, e1]
    · rw [va_up_self]
      exact k_up en (by omega)
    · rw [U4_10, va_up_ne _ _ (show (0 : Nat) ≠ 1 by decide)]
      exact eo
    · by_cases f : i = n
      · subst f
        obtain ⟨u1, u2, u3, u4⟩ := U4_in (h := h) (g := 11 + 5 * ((o + i) % 5)) (a := a) (b := b) (c := c') (d := d) (e := va_up (h 10) 1 (h 10 1 + 1)) (by omega)
        unfold SG
        rw [u1, u2, u3, u4]
        refine SR_congr (fun j hj => ?_) (hc _ σ (SR_mono hS))
        show (S_X10_act κ σ β).2 (112 * i + j) = σ j
        rw [q2, if_pos (by omega)]
        congr 1
        omega
      · unfold SG
        rw [U4_out (by omega) (by omega), U4_out (by omega) (by omega), U4_out (by omega) (by omega), U4_out (by omega) (by omega)]
        refine SR_congr (fun j hj => ?_) (SR_mono (hK i (by omega)))
        show (S_X10_act κ σ β).2 (112 * i + j) = β (112 * i + j)
        rw [q2, if_neg (by omega)]
