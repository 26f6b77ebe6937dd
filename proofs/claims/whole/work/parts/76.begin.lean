/-- class and reference as they are made -/
def hZ : Hp := fun g => if g < 36 then hK4 g else hM15 g
theorem hZ_ra : ∀ k, k < 32 → k ≠ 23 → k ≠ 24 → hZ 2 k = hZ 37 k := by decide +kernel
theorem hZ_lo : ∀ j, j < 9 → hZ 4 j = hZ 37 (49 + j) := by decide +kernel
theorem hZ_lg : ∀ j, j < 50 → hZ 5 j = hZ 37 (62 + j) := by decide +kernel
theorem hZ_w : WI (hZ 37) := by unfold WI; decide +kernel
theorem hZ_t : TK (hZ 37) := by unfold TK; decide +kernel
theorem hZ_a : ∀ j, j < 3 → (hZ 37 (49 + (1 + 2 * j))).toInt < (hZ 37 (49 + (1 + 2 * (j + 1)))).toInt := by decide +kernel
theorem hZ_b : ∀ j, j < 4 → (0 ≤ (hZ 37 (49 + (1 + 2 * j))).toInt ∧ (hZ 37 (49 + (1 + 2 * j))).toInt ≤ 3000) ∧ 0 ≤ (hZ 37 (49 + (2 + 2 * j))).toInt ∧ (hZ 37 (49 + (2 + 2 * j))).toInt ≤ 1000 := by decide +kernel
theorem hZ_c : (hZ 37 32).toInt = 0 ∧ hZ 3 0 = hZ 37 32 ∧ (hZ 37 49).toInt = 4 ∧ hZ 37 1 = 0 ∧ (hZ 37 63).toInt = 0 ∧ (hZ 37 62).toInt = 0 ∧ (hZ 37 18).toInt = 0 ∧ (hZ 37 0).toInt = 0 ∧ (hZ 37 6).toInt = 0 ∧ hZ 10 1 = hZ 36 1 ∧ (hZ 36 1).toInt = 0 ∧ (hZ 10 0).toInt = 0 ∧ (hZ 36 2).toInt = 0 ∧ hZ 7 0 = hZ 36 2 := by decide +kernel
theorem CI_0 : CI 0 hZ (hZ 36) (hZ 37) (hZ 39) (hZ 40) := by
  obtain ⟨a1, a2, a3, a4, a5, a6, a7, a8, a9, b1, b2, b3, b4, b5⟩ := hZ_c
  refine ⟨⟨⟨fun k h1 h2 h3 => ?_, hZ_w, hZ_t, ⟨0, ⟨a1, by decide, fun j hj => absurd hj (by omega), fun j hj => absurd hj (by omega), fun j hj => absurd hj (by omega)⟩, fun j hj => ?_⟩, ⟨4, ⟨a3, by decide, fun j hj => hZ_a j (by omega), fun j hj => (hZ_b j hj).1, fun j hj => (hZ_b j hj).2⟩, fun j hj => hZ_lo j (by omega)⟩⟩, hZ_lg, ?_⟩, ⟨b1, 0, 0, b2, by decide, b3, by decide, fun i hi => absurd hi (Nat.not_lt_zero _)⟩, ⟨0, by decide, b4, b5, fun k hk => absurd hk (Nat.not_lt_zero _)⟩⟩
  · refine hZ_ra k h1 (fun e => h3.2 (Or.inl e) a4) (fun e => h3.2 (Or.inr e) a4)
  · rw [show j = 0 by omega]
    exact a2
  · refine ⟨⟨?_, ?_, ?_, ?_, ?_⟩, Or.inl a4, ?_, ?_, fun j hj => ?_⟩
    all_goals first | omega | skip
/-- class and reference alike, in one heap -/
def LI (N : Nat) (h : Hp) : Prop := CI N h (h 36) (h 37) (h 39) (h 40)
theorem CI_low {N : Nat} {h h' : Hp} {κ σ β τ : Nat → Int32} (hh : ∀ g, g < 36 → h' g = h g) (hC : CI N h κ σ β τ) : CI N h' κ σ β τ := by
  obtain ⟨a, ⟨e1, n, o, en, hn5, eo, hoN, hK⟩, c⟩ := hC
  refine ⟨?_, ⟨by rw [hh 10 (by decide)]; exact e1, n, o, en, hn5, by rw [hh 10 (by decide)]; exact eo, hoN, fun i hi => ?_⟩, TX_congr (hh 7 (by decide)) rfl c⟩
  · rw [hh 2 (by decide), hh 3 (by decide), hh 4 (by decide), hh 5 (by decide)]
    exact a
  · have w := hK i hi
    unfold SG at w ⊢
    rw [hh _ (by omega), hh _ (by omega), hh _ (by omega), hh _ (by omega)]
    exact w
theorem LI_of {N : Nat} {h1 h2 : Hp} {κ σ β τ : Nat → Int32} (hC : CI N h1 κ σ β τ) (low : ∀ g, g < 36 → h2 g = h1 g) (e36 : h2 36 = κ) (e37 : h2 37 = σ) (e39 : h2 39 = β) (e40 : h2 40 = τ) : LI N h2 := by
  unfold LI
  rw [e36, e37, e39, e40]
  exact CI_low low hC
theorem CI.sm {N : Nat} {h : Hp} {κ σ β τ : Nat → Int32} (hC : CI N h κ σ β τ) : 0 ≤ (κ 1).toInt ∧ (κ 1).toInt ≤ 5 := by
  obtain ⟨e1, n, o, en, hn5, _⟩ := hC.2.1
  omega
theorem CI.len {N : Nat} {h : Hp} {κ σ β τ : Nat → Int32} (hC : CI N h κ σ β τ) : 0 ≤ (κ 2).toInt ∧ (κ 2).toInt ≤ 100 := by
  obtain ⟨n, hn, en, _⟩ := hC.2.2
  omega
theorem CI.ti {N : Nat} {h : Hp} {κ σ β τ : Nat → Int32} (hC : CI N h κ σ β τ) : TI (va_up κ 3 0) := by
  refine ⟨?_, ?_, ?_⟩
  · rw [va_up_ne _ _ (by decide)]; exact hC.sm
  · rw [va_up_ne _ _ (by decide)]; exact hC.len
  · rw [va_up_self]; decide
theorem CI.mi {N : Nat} {h : Hp} {κ σ β τ : Nat → Int32} (hC : CI N h κ σ β τ) : MI σ := by
  obtain ⟨_, _, hK, ⟨m, g, _⟩, ⟨m2, g2, _⟩⟩ := hC.1.1
  have e1 : (σ 32).toInt = m := g.1
  have e2 : (σ 49).toInt = m2 := g2.1
  have b1 := g.2.1
  have b2 := g2.2.1
  have i1 : ∀ j, 32 + (1 + 2 * j) = 33 + 2 * j := fun j => by omega
  refine ⟨⟨by omega, fun j hj => ?_, fun j hj => ?_⟩, by omega, hK.2.2.2.2.2.1⟩
  · have := g.2.2.1 j (by omega)
    dsimp only at this
    rw [i1, i1] at this
    exact this
  · have := g.2.2.2.1 j (by omega)
    dsimp only at this
    rw [i1] at this
    exact this
theorem CI.lgi {N : Nat} {h : Hp} {κ σ β τ : Nat → Int32} (hN : N ≤ 1000) (hC : CI N h κ σ β τ) : LGI σ := by
  have w := hC.1.2.2
  exact ⟨w.2.2.1, ⟨w.2.2.2.1.1, by have := w.2.2.2.1.2; omega⟩, w.2.2.2.2⟩
theorem slot5 (m : Nat → Int32) (st : Int32) : S_X1_slot m st < 5 := by
  unfold S_X1_slot
  exact fmN5 _
theorem rem_36 (h : Hp) {g : Nat} (hg : 36 ≤ g) : S_X1_remember h g = h g := by
  by_cases c : h 10 1 = 5
  · obtain ⟨m2, hm⟩ : ∃ m2, va_up (va_up (h 10) 0 (h 10 0 + 1)) 1 4 = m2 := ⟨_, rfl⟩
    obtain ⟨a, b, c', d, er, _⟩ := remember_hi c hm
    have := slot5 m2 (m2 1)
    rw [er]
    exact U4_out (by omega) (by omega)
  · obtain ⟨a, b, c', d, er, _⟩ := remember_lo c
    have := slot5 (h 10) (h 10 1)
    rw [er]
    exact U4_out (by omega) (by omega)
theorem fr_setAmbient (h : Hp) (am : Int32) {g : Nat} (hg : 36 ≤ g) : (S_X9_setAmbient h am).2 g = h g := by
  have r := rem_36 h hg
  unfold S_X9_setAmbient
  generalize S_X1_remember h = R at r ⊢
  (try dsimp only)
  repeat' split
  all_goals (try dsimp only)
  all_goals first | rfl | exact r | exact (va_up_ne _ _ (by omega)).trans r | exact (va_up_ne _ _ (by omega)).trans ((va_up_ne _ _ (by omega)).trans r)
theorem fr_setPower (h : Hp) (po : Int32) {g : Nat} (hg : 36 ≤ g) : (S_X9_setPower h po).2 g = h g := by
  have r := rem_36 h hg
  unfold S_X9_setPower
  generalize S_X1_remember h = R at r ⊢
  (try dsimp only)
  repeat' split
  all_goals (try dsimp only)
  all_goals first | rfl | exact r | exact (va_up_ne _ _ (by omega)).trans r | exact (va_up_ne _ _ (by omega)).trans ((va_up_ne _ _ (by omega)).trans r)
theorem fr_setController (h : Hp) (on pp ii bi : Int32) {g : Nat} (hg : 36 ≤ g) : (S_X9_setController h on pp ii bi).2 g = h g := by
  have r := rem_36 h hg
  unfold S_X9_setController
  generalize S_X1_remember h = R at r ⊢
  (try dsimp only)
  repeat' split
  all_goals (try dsimp only)
  all_goals first | rfl | exact r | exact (va_up_ne _ _ (by omega)).trans r | exact (va_up_ne _ _ (by omega)).trans ((va_up_ne _ _ (by omega)).trans r)
theorem fr_setProbe (h : Hp) (la fo : Int32) {g : Nat} (hg : 36 ≤ g) : (S_X9_setProbe h la fo).2 g = h g := by
  have r := rem_36 h hg
  unfold S_X9_setProbe
  generalize S_X1_remember h = R at r ⊢
  (try dsimp only)
  repeat' split
  all_goals (try dsimp only)
  all_goals first | rfl | exact r | exact (va_up_ne _ _ (by omega)).trans r | exact (va_up_ne _ _ (by omega)).trans ((va_up_ne _ _ (by omega)).trans r)
theorem fr_setCrack (h : Hp) (te th : Int32) {g : Nat} (hg : 36 ≤ g) : (S_X9_setCrack h te th).2 g = h g := by
  have r := rem_36 h hg
  unfold S_X9_setCrack
  generalize S_X1_remember h = R at r ⊢
  (try dsimp only)
  repeat' split
  all_goals (try dsimp only)
  all_goals first | rfl | exact r | exact (va_up_ne _ _ (by omega)).trans r | exact (va_up_ne _ _ (by omega)).trans ((va_up_ne _ _ (by omega)).trans r)
theorem fr_setFan (h : Hp) (fa : Int32) {g : Nat} (hg : 36 ≤ g) : (S_X9_setFan h fa).2 g = h g := by
  have r := rem_36 h hg
  unfold S_X9_setFan
  generalize S_X1_remember h = R at r ⊢
  (try dsimp only)
  repeat' split
  all_goals (try dsimp only)
  all_goals first | rfl | exact r | exact (va_up_ne _ _ (by omega)).trans r | exact (va_up_ne _ _ (by omega)).trans ((va_up_ne _ _ (by omega)).trans r)
theorem fr_setPoint (h : Hp) (ti te : Int32) {g : Nat} (hg : 36 ≤ g) : (S_X9_setPoint h ti te).2 g = h g := by
  have r := rem_36 h hg
  unfold S_X9_setPoint
  generalize S_X1_remember h = R at r ⊢
  (try dsimp only)
  repeat' split
  all_goals (try dsimp only)
  all_goals first | rfl | exact r | exact (va_up_ne _ _ (by omega)).trans r | exact (va_up_ne _ _ (by omega)).trans ((va_up_ne _ _ (by omega)).trans r)
theorem fr_removePoint (h : Hp) (ti : Int32) {g : Nat} (hg : 36 ≤ g) : (S_X9_removePoint h ti).2 g = h g := by
  have r := rem_36 h hg
  unfold S_X9_removePoint
  generalize S_X1_remember h = R at r ⊢
  (try dsimp only)
  repeat' split
  all_goals (try dsimp only)
  all_goals first | rfl | exact r | exact (va_up_ne _ _ (by omega)).trans r | exact (va_up_ne _ _ (by omega)).trans ((va_up_ne _ _ (by omega)).trans r)
theorem fr_setRow (h : Hp) (te ra : Int32) {g : Nat} (hg : 36 ≤ g) : (S_X9_setRow h te ra).2 g = h g := by
  have r := rem_36 h hg
  unfold S_X9_setRow
  generalize S_X1_remember h = R at r ⊢
  (try dsimp only)
  repeat' split
  all_goals (try dsimp only)
  all_goals first | rfl | exact r | exact (va_up_ne _ _ (by omega)).trans r | exact (va_up_ne _ _ (by omega)).trans ((va_up_ne _ _ (by omega)).trans r)
theorem fr_charge (h : Hp) (ma : Int32) {g : Nat} (hg : 36 ≤ g) : (S_X9_charge h ma).2 g = h g := by
  have r := rem_36 h hg
  unfold S_X9_charge
  generalize S_X1_remember h = R at r ⊢
  (try dsimp only)
  repeat' split
  all_goals (try dsimp only)
  all_goals first | rfl | exact r | exact (va_up_ne _ _ (by omega)).trans r | exact (va_up_ne _ _ (by omega)).trans ((va_up_ne _ _ (by omega)).trans r)
theorem fr_drop (h : Hp) {g : Nat} (hg : 36 ≤ g) : (S_X9_drop h ).2 g = h g := by
  have r := rem_36 h hg
  unfold S_X9_drop
  generalize S_X1_remember h = R at r ⊢
  (try dsimp only)
  repeat' split
  all_goals (try dsimp only)
  all_goals first | rfl | exact r | exact (va_up_ne _ _ (by omega)).trans r | exact (va_up_ne _ _ (by omega)).trans ((va_up_ne _ _ (by omega)).trans r)
theorem fr_takeAway (h : Hp) {g : Nat} (hg : 36 ≤ g) : (S_X9_takeAway h ).2 g = h g := by
  have r := rem_36 h hg
  unfold S_X9_takeAway
  generalize S_X1_remember h = R at r ⊢
  (try dsimp only)
  repeat' split
  all_goals (try dsimp only)
  all_goals first | rfl | exact r | exact (va_up_ne _ _ (by omega)).trans r | exact (va_up_ne _ _ (by omega)).trans ((va_up_ne _ _ (by omega)).trans r)
theorem fr_append (h : Hp) (ch : Int32) {g : Nat} (hg : 36 ≤ g) : (S_X9_append h ch).2 g = h g := by
  unfold S_X9_append
  (try dsimp only)
  repeat' split
  all_goals (try dsimp only)
  all_goals first | rfl | exact va_up_ne _ _ (by omega)
theorem fr_clearText (h : Hp) {g : Nat} (hg : 36 ≤ g) : (S_X9_clearText h).2 g = h g := va_up_ne _ _ (by omega)
theorem fr_load (h : Hp) {g : Nat} (hg : 36 ≤ g) : (S_X9_load h).2 g = h g := by
  unfold S_X9_load
  generalize S_X3_errorPosition (h 8) (h 9) (h 7) = EP
  have r := rem_36 (va_up (va_up h 8 EP.2.1) 9 EP.2.2) hg
  rw [va_up_ne _ _ (by omega), va_up_ne _ _ (by omega)] at r
  dsimp only
  generalize S_X1_remember (va_up (va_up h 8 EP.2.1) 9 EP.2.2) = R at r ⊢
  split
  · dsimp only
    rw [va_up_ne _ _ (by omega), va_up_ne _ _ (by omega)]
    exact r
  · dsimp only
    rw [va_up_ne _ _ (by omega), va_up_ne _ _ (by omega)]
theorem L_run_fr (h : Hp) (ti : Int32) {g : Nat} (hg : 36 ≤ g) : ∀ (fu : Nat) (k : Int32) (hh : Hp), hh g = h g → (L_X9_run_45 fu h ti k hh).2 g = h g := by
  intro fu
  induction fu with
  | zero => intro _ _ _; rfl
  | succ fu ih =>
    intro k hh e
    unfold L_X9_run_45
    by_cases c : ti ≤ k
    · rw [if_pos c]; exact e
    · rw [if_neg c]
      exact ih _ _ ((va_up_ne _ _ (by omega)).trans e)
theorem fr_run (h : Hp) (ti : Int32) {g : Nat} (hg : 36 ≤ g) : (S_X9_run h ti).2 g = h g := by
  have r := rem_36 h hg
  unfold S_X9_run
  generalize S_X1_remember h = R at r ⊢
  dsimp only
  repeat' split
  · rfl
  · exact L_run_fr h ti hg _ _ _ r
  · rfl
theorem fr_undo (h : Hp) {g : Nat} (hg : 36 ≤ g) : (S_X9_undo h).2 g = h g := by
  have e : ∃ a b c d e, S_X1_restore h = va_up (va_up (va_up (va_up (va_up h 2 a) 3 b) 4 c) 5 d) 10 e := ⟨_, _, _, _, _, rfl⟩
  obtain ⟨a, b, c, d, e, er⟩ := e
  by_cases q : 0 < h 10 1
  · have eC : S_X9_undo h = (S_X1_restore h 10 1, S_X1_restore h) := by
      unfold S_X9_undo
      exact if_pos q
    rw [eC, er]
    dsimp only
    rw [va_up_ne _ _ (show g ≠ 10 by omega), va_up_ne _ _ (show g ≠ 5 by omega), va_up_ne _ _ (show g ≠ 4 by omega), va_up_ne _ _ (show g ≠ 3 by omega), va_up_ne _ _ (show g ≠ 2 by omega)]
  · have eC : S_X9_undo h = (-100002, h) := by
      unfold S_X9_undo
      exact if_neg q
    rw [eC]
