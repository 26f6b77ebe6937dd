theorem L_undo_pt {κ σ β κ1 : Nat → Int32} {n : Nat} (hn : (κ1 1).toInt = n) (hn4 : n ≤ 4) : ∀ (fu : Nat) (k : Int32) (K : Nat) (σ1 : Nat → Int32), k.toInt = K → K ≤ 112 → 112 - K < fu → (L_X10_undo_27 fu κ σ β k κ1 σ1).1 = κ1 1 ∧ (L_X10_undo_27 fu κ σ β k κ1 σ1).2.1 = κ1 ∧ ∀ j, (L_X10_undo_27 fu κ σ β k κ1 σ1).2.2 j = if K ≤ j ∧ j < 112 then β (112 * n + j) else σ1 j := by
  intro fu
  induction fu with
  | zero => intro _ _ _ _ _ h; exact absurd h (Nat.not_lt_zero _)
  | succ fu ih =>
    intro k K σ1 hk hK hf
    unfold L_X10_undo_27
    have z : (112 : Int32).toInt = 112 := rfl
    by_cases c : 112 ≤ k
    · have c2 := Int32.le_iff_toInt_le.mp c
      rw [hk, z] at c2
      rw [if_pos c]
      refine ⟨rfl, rfl, fun j => ?_⟩
      rw [if_neg (by omega)]
    · have c2 := nle c
      rw [hk, z] at c2
      rw [if_neg c, i_eq (blk hn (by omega) hk (by omega)), i_eq hk]
      obtain ⟨a, a2, b⟩ := ih _ (K + 1) (va_up σ1 K (β (112 * n + K))) (k_up hk (by omega)) (by omega) (by omega)
      refine ⟨a, a2, fun j => ?_⟩
      rw [b j]
      clear ih hk c z a a2 b
      simp only [va_up]
      repeat' split
      all_goals first | rfl | omega | (congr 1; omega)
/-- undo alike -/
theorem undo_eq {N : Nat} {h : Hp} {κ σ β : Nat → Int32} (hN : N ≤ 100000) (hS : SR N (h 2) (h 3) (h 4) (h 5) σ) (hH : KS N h κ β) : (S_X9_undo h).1 = (S_X10_undo κ σ β).1 ∧ SR N ((S_X9_undo h).2 2) ((S_X9_undo h).2 3) ((S_X9_undo h).2 4) ((S_X9_undo h).2 5) (S_X10_undo κ σ β).2.2 ∧ KS N (S_X9_undo h).2 (S_X10_undo κ σ β).2.1 β ∧ (∀ g, g < 2 ∨ 5 < g ∧ g ≠ 10 → (S_X9_undo h).2 g = h g) ∧ (∀ k, 2 ≤ k → (S_X10_undo κ σ β).2.1 k = κ k) := by
  obtain ⟨e1, n, o, en, hn5, eo, hoN, hK⟩ := hH
  have k1 : va_up κ 0 0 1 = κ 1 := rfl
  cases n with
  | zero =>
    have z1 : κ 1 = 0 := Int32.toInt_inj.mp (by rw [en]; rfl)
    unfold S_X9_undo S_X10_undo
    rw [if_neg (show ¬ 0 < h 10 1 by rw [e1, z1]; decide), if_pos (show va_up κ 0 0 1 = 0 from z1)]
    exact ⟨rfl, hS, ⟨e1, 0, o, en, by decide, eo, hoN, hK⟩, fun g _ => rfl, fun k hk => va_up_ne _ _ (by omega)⟩
  | succ n =>
    have z1 : ¬ κ 1 = 0 := fun c => by
      rw [c] at en
      have : (0 : Int32).toInt = 0 := rfl
      omega
    have p1 : 0 < h 10 1 := by
      rw [e1]
      exact Int32.lt_iff_toInt_lt.mpr (by rw [en]; show (0 : Int) < _; omega)
    have d1 := (k_dn en (by omega)).1
    have es := slot_pt (ρ := h 10) (st := h 10 1 - 1) (s := n) eo (by omega) (by rw [e1]; exact d1) (by omega)
    obtain ⟨q1, q2, q3⟩ := L_undo_pt (κ := κ) (σ := σ) (β := β) (κ1 := va_up (va_up κ 0 0) 1 (va_up κ 0 0 1 - 1)) (n := n) (by rw [va_up_self, k1]; exact d1) (by omega) 113 0 0 σ rfl (by decide) (by decide)
    have eM : S_X10_undo κ σ β = L_X10_undo_27 113 κ σ β 0 (va_up (va_up κ 0 0) 1 (va_up κ 0 0 1 - 1)) σ := by
      unfold S_X10_undo
      exact if_neg (show ¬ va_up κ 0 0 1 = 0 from z1)
    have eC : S_X9_undo h = (S_X1_restore h 10 1, S_X1_restore h) := by
      unfold S_X9_undo
      exact if_pos p1
    have eR : ∃ a b c d, S_X1_restore h = va_up (va_up (va_up (va_up (va_up h 2 a) 3 b) 4 c) 5 d) 10 (va_up (h 10) 1 (h 10 1 - 1)) ∧ ∀ M τ, SG M h (11 + 5 * S_X1_slot (h 10) (h 10 1 - 1)) τ → SR M a b c d τ := ⟨_, _, _, _, rfl, fun M τ hs => SR_copy hs⟩
    obtain ⟨a, b, c, d, er, hc⟩ := eR
    rw [eM, eC, er]
    rw [es] at hc
    have w := hc N _ (hK n (by omega))
    refine ⟨?_, ?_, ⟨?_, n, o, ?_, by omega, ?_, hoN, fun i hi => ?_⟩, fun g hg => ?_, fun k hk => ?_⟩
    · rw [q1]
      show va_up (va_up (va_up (va_up (va_up h 2 a) 3 b) 4 c) 5 d) 10 (va_up (h 10) 1 (h 10 1 - 1)) 10 1 = _
      rw [va_up_self, va_up_self, va_up_self, e1, k1]
    · show SR N a b c d _
      refine SR_congr (fun j hj => ?_) w
      rw [q3, if_pos ⟨Nat.zero_le _, hj⟩]
    · rw [q2]
      show va_up (va_up (va_up (va_up (va_up h 2 a) 3 b) 4 c) 5 d) 10 (va_up (h 10) 1 (h 10 1 - 1)) 10 1 = _
      rw [va_up_self, va_up_self, va_up_self, e1, k1]
    · rw [q2, va_up_self, k1]
      exact d1
    · show (va_up (va_up (va_up (va_up (va_up h 2 a) 3 b) 4 c) 5 d) 10 (va_up (h 10) 1 (h 10 1 - 1)) 10 0).toInt = _
      rw [va_up_self, va_up_ne _ _ (show (0 : Nat) ≠ 1 by decide)]
      exact eo
    · have f : ∀ k, 5 < k → k ≠ 10 → va_up (va_up (va_up (va_up (va_up h 2 a) 3 b) 4 c) 5 d) 10 (va_up (h 10) 1 (h 10 1 - 1)) k = h k := fun k h5 h10 => by
        rw [va_up_ne _ _ h10, va_up_ne _ _ (show k ≠ 5 by omega), va_up_ne _ _ (show k ≠ 4 by omega), va_up_ne _ _ (show k ≠ 3 by omega), va_up_ne _ _ (show k ≠ 2 by omega)]
      have := hK i (by omega)
      unfold SG at this ⊢
      dsimp only
      rw [f _ (by omega) (by omega), f _ (by omega) (by omega), f _ (by omega) (by omega), f _ (by omega) (by omega)]
      exact this
    · dsimp only
      rw [va_up_ne _ _ (show g ≠ 10 by omega), va_up_ne _ _ (show g ≠ 5 by omega), va_up_ne _ _ (show g ≠ 4 by omega), va_up_ne _ _ (show g ≠ 3 by omega), va_up_ne _ _ (show g ≠ 2 by omega)]
    · rw [q2, va_up_ne _ _ (show k ≠ 1 by omega), va_up_ne _ _ (show k ≠ 0 by omega)]
