/-! THE HISTORY -/
def WH (h : Hp) : Prop := W4 (h 2) (h 3) (h 4) (h 5)
def SGW (h : Hp) (g : Nat) : Prop := W4 (h (g + 1)) (h (g + 2)) (h (g + 3)) (h (g + 4))
def HI (N : Nat) (h : Hp) : Prop := ∃ n o : Nat, (h 10 1).toInt = n ∧ n ≤ 5 ∧ (h 10 0).toInt = o ∧ o ≤ N ∧ ∀ i, i < n → SGW h (11 + 5 * ((o + i) % 5))
/-- the latest kept state is this one -/
def TOP (h : Hp) (ρ π μ ν : Nat → Int32) : Prop := ∃ n o : Nat, (h 10 1).toInt = ((n + 1 : Nat) : Int) ∧ n + 1 ≤ 5 ∧ (h 10 0).toInt = o ∧ o ≤ 200000 ∧ AG4 (h (11 + 5 * ((o + n) % 5) + 1)) (h (11 + 5 * ((o + n) % 5) + 2)) (h (11 + 5 * ((o + n) % 5) + 3)) (h (11 + 5 * ((o + n) % 5) + 4)) ρ π μ ν
theorem HI_congr {N : Nat} {h h' : Hp} (e : ∀ g, 10 ≤ g → h' g = h g) (q : HI N h) : HI N h' := by
  obtain ⟨n, o, a, b, c, d, f⟩ := q
  refine ⟨n, o, by rw [e 10 (by decide)]; exact a, b, by rw [e 10 (by decide)]; exact c, d, fun i hi => ?_⟩
  have := f i hi
  unfold SGW at this ⊢
  rw [e _ (by omega), e _ (by omega), e _ (by omega), e _ (by omega)]
  exact this
theorem TOP_congr {h h' : Hp} {ρ π μ ν : Nat → Int32} (e : ∀ g, 10 ≤ g → h' g = h g) (q : TOP h ρ π μ ν) : TOP h' ρ π μ ν := by
  obtain ⟨n, o, a, b, c, d, f⟩ := q
  refine ⟨n, o, by rw [e 10 (by decide)]; exact a, b, by rw [e 10 (by decide)]; exact c, d, ?_⟩
  rw [e _ (by omega), e _ (by omega), e _ (by omega), e _ (by omega)]
  exact f
theorem rem_lo {h : Hp} (hn : ¬ h 10 1 = 5) : ∃ a b c d, S_X1_remember h = U4 h (11 + 5 * S_X1_slot (h 10) (h 10 1)) a b c d (va_up (h 10) 1 (h 10 1 + 1)) ∧ (WH h → AG4 a b c d (h 2) (h 3) (h 4) (h 5)) := by
  refine ⟨(S_X7_copyFrom (h (11 + 5 * S_X1_slot (h 10) (h 10 1) + 1)) (h (11 + 5 * S_X1_slot (h 10) (h 10 1) + 2)) (h (11 + 5 * S_X1_slot (h 10) (h 10 1) + 3)) (h (11 + 5 * S_X1_slot (h 10) (h 10 1) + 4)) (h 2) (h 3) (h 4) (h 5) 8 6).1, (S_X7_copyFrom (h (11 + 5 * S_X1_slot (h 10) (h 10 1) + 1)) (h (11 + 5 * S_X1_slot (h 10) (h 10 1) + 2)) (h (11 + 5 * S_X1_slot (h 10) (h 10 1) + 3)) (h (11 + 5 * S_X1_slot (h 10) (h 10 1) + 4)) (h 2) (h 3) (h 4) (h 5) 8 6).2.1, (S_X7_copyFrom (h (11 + 5 * S_X1_slot (h 10) (h 10 1) + 1)) (h (11 + 5 * S_X1_slot (h 10) (h 10 1) + 2)) (h (11 + 5 * S_X1_slot (h 10) (h 10 1) + 3)) (h (11 + 5 * S_X1_slot (h 10) (h 10 1) + 4)) (h 2) (h 3) (h 4) (h 5) 8 6).2.2.1, (S_X7_copyFrom (h (11 + 5 * S_X1_slot (h 10) (h 10 1) + 1)) (h (11 + 5 * S_X1_slot (h 10) (h 10 1) + 2)) (h (11 + 5 * S_X1_slot (h 10) (h 10 1) + 3)) (h (11 + 5 * S_X1_slot (h 10) (h 10 1) + 4)) (h 2) (h 3) (h 4) (h 5) 8 6).2.2.2, ?_, fun hw => copy4 hw⟩
  unfold S_X1_remember
  rw [if_neg hn]
  rfl
theorem rem_hi {h : Hp} (hn : h 10 1 = 5) {m2 : Nat → Int32} (hm : va_up (va_up (h 10) 0 (h 10 0 + 1)) 1 4 = m2) : ∃ a b c d, S_X1_remember h = U4 h (11 + 5 * S_X1_slot m2 (m2 1)) a b c d (va_up m2 1 (m2 1 + 1)) ∧ (WH h → AG4 a b c d (h 2) (h 3) (h 4) (h 5)) := by
  refine ⟨(S_X7_copyFrom (h (11 + 5 * S_X1_slot m2 (m2 1) + 1)) (h (11 + 5 * S_X1_slot m2 (m2 1) + 2)) (h (11 + 5 * S_X1_slot m2 (m2 1) + 3)) (h (11 + 5 * S_X1_slot m2 (m2 1) + 4)) (h 2) (h 3) (h 4) (h 5) 8 6).1, (S_X7_copyFrom (h (11 + 5 * S_X1_slot m2 (m2 1) + 1)) (h (11 + 5 * S_X1_slot m2 (m2 1) + 2)) (h (11 + 5 * S_X1_slot m2 (m2 1) + 3)) (h (11 + 5 * S_X1_slot m2 (m2 1) + 4)) (h 2) (h 3) (h 4) (h 5) 8 6).2.1, (S_X7_copyFrom (h (11 + 5 * S_X1_slot m2 (m2 1) + 1)) (h (11 + 5 * S_X1_slot m2 (m2 1) + 2)) (h (11 + 5 * S_X1_slot m2 (m2 1) + 3)) (h (11 + 5 * S_X1_slot m2 (m2 1) + 4)) (h 2) (h 3) (h 4) (h 5) 8 6).2.2.1, (S_X7_copyFrom (h (11 + 5 * S_X1_slot m2 (m2 1) + 1)) (h (11 + 5 * S_X1_slot m2 (m2 1) + 2)) (h (11 + 5 * S_X1_slot m2 (m2 1) + 3)) (h (11 + 5 * S_X1_slot m2 (m2 1) + 4)) (h 2) (h 3) (h 4) (h 5) 8 6).2.2.2, ?_, fun hw => copy4 hw⟩
  unfold S_X1_remember
  rw [if_pos hn]
  have e : va_up (va_up (h 10) 0 (h 10 0 + 1)) 1 (va_up (h 10) 0 (h 10 0 + 1) 1 - 1) = m2 := by
    rw [← hm, va_up_ne _ _ (show (1 : Nat) ≠ 0 by decide), hn]
    rfl
  dsimp only
  rw [e]
  rfl
theorem slot5 (m : Nat → Int32) (st : Int32) : S_X1_slot m st < 5 := by
  unfold S_X1_slot
  exact fmN5 _
/-- recording a state leaves all else as it is -/
theorem rem_low (h : Hp) {g : Nat} (hg : g < 10) : S_X1_remember h g = h g := by
  by_cases c : h 10 1 = 5
  · obtain ⟨m2, hm⟩ : ∃ m2, va_up (va_up (h 10) 0 (h 10 0 + 1)) 1 4 = m2 := ⟨_, rfl⟩
    obtain ⟨a, b, c', d, er, _⟩ := rem_hi c hm
    rw [er]
    exact U4_out (by omega) (by omega)
  · obtain ⟨a, b, c', d, er, _⟩ := rem_lo c
    rw [er]
    exact U4_out (by omega) (by omega)
theorem rem_ok {h : Hp} {N : Nat} (hN : N ≤ 100000) (hW : WH h) (hH : HI N h) : HI (N + 1) (S_X1_remember h) ∧ TOP (S_X1_remember h) (h 2) (h 3) (h 4) (h 5) := by
  obtain ⟨n, o, en, hn5, eo, hoN, hK⟩ := hH
  by_cases c : n = 5
  · subst c
    have k5 : h 10 1 = 5 := Int32.toInt_inj.mp en
    obtain ⟨m2, hm⟩ : ∃ m2, va_up (va_up (h 10) 0 (h 10 0 + 1)) 1 4 = m2 := ⟨_, rfl⟩
    obtain ⟨a, b, c, d, er, hc⟩ := rem_hi k5 hm
    have hc := hc hW
    have m0 : (m2 0).toInt = ((o + 1 : Nat) : Int) := by
      rw [← hm, va_up_ne _ _ (show (0 : Nat) ≠ 1 by decide), va_up_self, ta (b := 1) (by rw [eo]; show -2147483648 ≤ (o : Int) + 1; omega) (by rw [eo]; show (o : Int) + 1 < 2147483648; omega), eo]
      rfl
    have m1 : m2 1 = 4 := by rw [← hm, va_up_self]
    have es := slot_pt (st := m2 1) (s := 4) m0 (by omega) (by rw [m1]; rfl) (by decide)
    rw [er, es]
    obtain ⟨u1, u2, u3, u4⟩ := U4_in (h := h) (g := 11 + 5 * ((o + 1 + 4) % 5)) (a := a) (b := b) (c := c) (d := d) (e := va_up m2 1 (m2 1 + 1)) (by omega)
    have s1 : (va_up m2 1 (m2 1 + 1) 1).toInt = 5 := by rw [va_up_self, m1]; rfl
    have s0 : (va_up m2 1 (m2 1 + 1) 0).toInt = ((o + 1 : Nat) : Int) := by rw [va_up_ne _ _ (show (0 : Nat) ≠ 1 by decide)]; exact m0
    refine ⟨⟨5, o + 1, by rw [U4_10]; exact s1, Nat.le_refl _, by rw [U4_10]; exact s0, by omega, fun i hi => ?_⟩, ⟨4, o + 1, by rw [U4_10]; exact s1, Nat.le_refl _, by rw [U4_10]; exact s0, by omega, ?_⟩⟩
    · by_cases f : i = 4
      · subst f
        unfold SGW
        rw [u1, u2, u3, u4]
        exact W4_congr hc hW
      · unfold SGW
        rw [U4_out (by omega) (by omega), U4_out (by omega) (by omega), U4_out (by omega) (by omega), U4_out (by omega) (by omega)]
        have w := hK (i + 1) (by omega)
        rw [show o + (i + 1) = o + 1 + i by omega] at w
        exact w
    · rw [u1, u2, u3, u4]
      exact hc
  · have k5 : ¬ h 10 1 = 5 := fun q => c (by
      rw [q] at en
      have : (5 : Int32).toInt = 5 := rfl
      omega)
    obtain ⟨a, b, c', d, er, hc⟩ := rem_lo k5
    have hc := hc hW
    have es := slot_pt (ρ := h 10) (st := h 10 1) (s := n) eo (by omega) en hn5
    rw [er, es]
    obtain ⟨u1, u2, u3, u4⟩ := U4_in (h := h) (g := 11 + 5 * ((o + n) % 5)) (a := a) (b := b) (c := c') (d := d) (e := va_up (h 10) 1 (h 10 1 + 1)) (by omega)
    have s1 : (va_up (h 10) 1 (h 10 1 + 1) 1).toInt = ((n + 1 : Nat) : Int) := by rw [va_up_self]; exact k_up en (by omega)
    have s0 : (va_up (h 10) 1 (h 10 1 + 1) 0).toInt = o := by rw [va_up_ne _ _ (show (0 : Nat) ≠ 1 by decide)]; exact eo
    refine ⟨⟨n + 1, o, by rw [U4_10]; exact s1, by omega, by rw [U4_10]; exact s0, by omega, fun i hi => ?_⟩, ⟨n, o, by rw [U4_10]; exact s1, by omega, by rw [U4_10]; exact s0, by omega, ?_⟩⟩
    · by_cases f : i = n
      · subst f
        unfold SGW
        rw [u1, u2, u3, u4]
        exact W4_congr hc hW
      · unfold SGW
        rw [U4_out (by omega) (by omega), U4_out (by omega) (by omega), U4_out (by omega) (by omega), U4_out (by omega) (by omega)]
        exact hK i (by omega)
    · rw [u1, u2, u3, u4]
      exact hc
/-- undone, all is as it was -/
theorem undo_ok {h : Hp} {N : Nat} {ρ π μ ν : Nat → Int32} (hH : HI N h) (hT : TOP h ρ π μ ν) (hW : W4 ρ π μ ν) : 0 ≤ (S_X9_undo h).1.toInt ∧ AG4 ((S_X9_undo h).2 2) ((S_X9_undo h).2 3) ((S_X9_undo h).2 4) ((S_X9_undo h).2 5) ρ π μ ν ∧ HI N (S_X9_undo h).2 ∧ ∀ g, g < 2 ∨ 5 < g ∧ g ≠ 10 → (S_X9_undo h).2 g = h g := by
  obtain ⟨n, o, en, hn5, eo, ho, ag⟩ := hT
  obtain ⟨n', o', en', hn', eo', hoN, hK⟩ := hH
  have e1 : n' = n + 1 := by omega
  have e2 : o' = o := by omega
  subst e1 e2
  have z0 : (0 : Int32).toInt = 0 := rfl
  have p1 : 0 < h 10 1 := Int32.lt_iff_toInt_lt.mpr (by omega)
  have d1 := (k_dn en (by omega)).1
  have es := slot_pt (ρ := h 10) (st := h 10 1 - 1) (s := n) eo (by omega) d1 (by omega)
  have eC : S_X9_undo h = (S_X1_restore h 10 1, S_X1_restore h) := by
    unfold S_X9_undo
    exact if_pos p1
  have wT : W4 (h (11 + 5 * ((o' + n) % 5) + 1)) (h (11 + 5 * ((o' + n) % 5) + 2)) (h (11 + 5 * ((o' + n) % 5) + 3)) (h (11 + 5 * ((o' + n) % 5) + 4)) := W4_congr ag hW
  have eR : ∃ a b c d, S_X1_restore h = va_up (va_up (va_up (va_up (va_up h 2 a) 3 b) 4 c) 5 d) 10 (va_up (h 10) 1 (h 10 1 - 1)) ∧ (W4 (h (11 + 5 * S_X1_slot (h 10) (h 10 1 - 1) + 1)) (h (11 + 5 * S_X1_slot (h 10) (h 10 1 - 1) + 2)) (h (11 + 5 * S_X1_slot (h 10) (h 10 1 - 1) + 3)) (h (11 + 5 * S_X1_slot (h 10) (h 10 1 - 1) + 4)) → AG4 a b c d (h (11 + 5 * S_X1_slot (h 10) (h 10 1 - 1) + 1)) (h (11 + 5 * S_X1_slot (h 10) (h 10 1 - 1) + 2)) (h (11 + 5 * S_X1_slot (h 10) (h 10 1 - 1) + 3)) (h (11 + 5 * S_X1_slot (h 10) (h 10 1 - 1) + 4))) := ⟨_, _, _, _, rfl, fun w => copy4 w⟩
  obtain ⟨a, b, c, d, er, hc⟩ := eR
  rw [es] at hc
  have hc := (hc wT).trans ag
  rw [eC, er]
  have f : ∀ k, k < 2 ∨ 5 < k ∧ k ≠ 10 → va_up (va_up (va_up (va_up (va_up h 2 a) 3 b) 4 c) 5 d) 10 (va_up (h 10) 1 (h 10 1 - 1)) k = h k := fun k hk => by
    rw [va_up_ne _ _ (show k ≠ 10 by omega), va_up_ne _ _ (show k ≠ 5 by omega), va_up_ne _ _ (show k ≠ 4 by omega), va_up_ne _ _ (show k ≠ 3 by omega), va_up_ne _ _ (show k ≠ 2 by omega)]
  refine ⟨?_, hc, ⟨n, o', ?_, by omega, ?_, hoN, fun i hi => ?_⟩, f⟩
  · show 0 ≤ (va_up (va_up (va_up (va_up (va_up h 2 a) 3 b) 4 c) 5 d) 10 (va_up (h 10) 1 (h 10 1 - 1)) 10 1).toInt
    rw [va_up_self, va_up_self, d1]
    omega
  · show (va_up (va_up (va_up (va_up (va_up h 2 a) 3 b) 4 c) 5 d) 10 (va_up (h 10) 1 (h 10 1 - 1)) 10 1).toInt = _
    rw [va_up_self, va_up_self]
    exact d1
  · show (va_up (va_up (va_up (va_up (va_up h 2 a) 3 b) 4 c) 5 d) 10 (va_up (h 10) 1 (h 10 1 - 1)) 10 0).toInt = _
    rw [va_up_self, va_up_ne _ _ (show (0 : Nat) ≠ 1 by decide)]
    exact eo
  · have := hK i (by omega)
    unfold SGW at this ⊢
    dsimp only
    rw [f _ (by omega), f _ (by omega), f _ (by omega), f _ (by omega)]
    exact this
