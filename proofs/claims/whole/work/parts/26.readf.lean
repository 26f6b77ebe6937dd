theorem L_skip_ne {κ τ : Nat → Int32} {k : Nat} (hk : k ≠ 3) : ∀ (fu : Nat) (κ1 : Nat → Int32), TI κ1 → ((κ1 2).toInt - (κ1 3).toInt).toNat < fu → L_X10_skip_0 fu κ τ κ1 k = κ1 k := by
  intro fu
  induction fu with
  | zero => intro _ _ h; exact absurd h (Nat.not_lt_zero _)
  | succ fu ih =>
    intro κ1 h hm
    unfold L_X10_skip_0
    by_cases c : S_X10_here κ1 τ = 32
    · rw [if_pos c]
      have c2 := h32 c
      exact (ih _ (TI_nx h c2).1 (sk_dec h c2 hm)).trans (va_up_ne _ _ hk)
    · rw [if_neg c]
theorem skip_ne {κ τ : Nat → Int32} (h : TI κ) {k : Nat} (hk : k ≠ 3) : S_X10_skip κ τ k = κ k := L_skip_ne hk _ _ h (Nat.lt_succ_self _)
theorem L_take_w {κ τ : Nat → Int32} {le mo : Int32} : ∀ (fu : Nat) (sa va : Int32) (κ1 : Nat → Int32), TI κ1 → ((κ1 2).toInt - (κ1 3).toInt).toNat < fu → ¬ κ1 4 = -100009 → (L_X10_takeNumber_12 fu κ τ le mo sa va κ1).2 4 = κ1 4 := by
  intro fu
  induction fu with
  | zero => intro _ _ _ _ h; exact absurd h (Nat.not_lt_zero _)
  | succ fu ih =>
    intro sa va κ1 h hm hw
    unfold L_X10_takeNumber_12
    by_cases c : S_X10_in (S_X10_here κ1 τ) 48 57 = 0
    · rw [if_pos c]
      show (if _ then (if κ1 4 = -100009 then sa else κ1 4) else κ1 4) = κ1 4
      rw [if_neg hw]
      exact ite_self _
    · rw [if_neg c]
      have c2 := hdig c
      exact ih _ _ _ (TI_nx h c2).1 (sk_dec h c2 hm) hw
theorem take_w {κ τ : Nat → Int32} {le mo : Int32} (h : TI κ) (hw : ¬ κ 4 = -100009) : (S_X10_takeNumber κ τ le mo).2 4 = κ 4 := by
  have h1 := TI_X10_skip (τ := τ) h
  have h2 := skip_ne (τ := τ) h (k := 4) (by decide)
  exact (L_take_w _ _ _ _ h1 (Nat.lt_succ_self _) (by rw [h2]; exact hw)).trans h2
theorem ins_32 {σ : Nat → Int32} {ke va : Int32} (hs : 0 ≤ (σ 32).toInt ∧ (σ 32).toInt ≤ 8) : S_X10_insert_P σ ke va 32 = σ 32 + 1 ∨ S_X10_insert_P σ ke va 32 = σ 32 := by
  obtain ⟨m, hm⟩ : ∃ m : Nat, (σ 32).toInt = m := ⟨(σ 32).toInt.toNat, by omega⟩
  have hb := pbd8 (σ := σ) (li := 33) (ke := ke) hs
  obtain ⟨p, hp⟩ : ∃ p : Nat, (S_X10_place σ 33 (σ 32) ke).toInt = p := ⟨(S_X10_place σ 33 (σ 32) ke).toInt.toNat, (Int.toNat_of_nonneg hb.1).symm⟩
  rw [ins_P hm (by omega) hp, if_neg (by clear hp hb; omega), if_neg (by clear hp hb; omega)]
  split
  · rw [if_pos rfl]; exact Or.inl rfl
  · exact Or.inr rfl
/-- what readPoint leaves -/
theorem read_f {κ σ τ : Nat → Int32} {be : Int32} (hN : TI κ) (hn : ¬ κ 2 ≤ κ 3) (hs : 0 ≤ (σ 32).toInt ∧ (σ 32).toInt ≤ 8) : TI (S_X10_readPoint κ σ τ be).1 ∧ (S_X10_readPoint κ σ τ be).1 2 = κ 2 ∧ (κ 3).toInt + 1 ≤ ((S_X10_readPoint κ σ τ be).1 3).toInt ∧ 0 ≤ ((S_X10_readPoint κ σ τ be).2 32).toInt ∧ ((S_X10_readPoint κ σ τ be).2 32).toInt ≤ 8 := by
  have i4 : TI (T_X10_readPoint_r4 κ σ τ be) := TI_w4 hN
  have s4 : SK κ (T_X10_readPoint_r4 κ σ τ be) := SK.w4 _
  have i5 : TI (T_X10_readPoint_r5 κ σ τ be) := TI_X10_takeNumber i4
  have s5 : SK κ (T_X10_readPoint_r5 κ σ τ be) := s4.tr (take_SK i4)
  have i6 : TI (T_X10_readPoint_r6 κ σ τ be) := TI_X10_takeNumber i5
  have s6 : SK κ (T_X10_readPoint_r6 κ σ τ be) := s5.tr (take_SK i5)
  have i7 : TI (T_X10_readPoint_r7 κ σ τ be) := TI_X10_skip i6
  have s7 : SK κ (T_X10_readPoint_r7 κ σ τ be) := s6.tr (skip_SK i6)
  have w : ¬ T_X10_readPoint_r4 κ σ τ be 4 = -100009 → T_X10_readPoint_r7 κ σ τ be 4 = T_X10_readPoint_r4 κ σ τ be 4 := fun h => by
    have h5 : T_X10_readPoint_r5 κ σ τ be 4 = T_X10_readPoint_r4 κ σ τ be 4 := take_w i4 h
    have h6 : T_X10_readPoint_r6 κ σ τ be 4 = T_X10_readPoint_r5 κ σ τ be 4 := take_w i5 (by rw [h5]; exact h)
    have h7 : T_X10_readPoint_r7 κ σ τ be 4 = T_X10_readPoint_r6 κ σ τ be 4 := skip_ne i6 (by decide)
    rw [h7, h6, h5]
  have e13 : (S_X10_readPoint κ σ τ be).1 = va_up (va_up (T_X10_readPoint_r7 κ σ τ be) 4 (T_X10_readPoint_m9 κ σ τ be)) 3 (T_X10_readPoint_r7 κ σ τ be 3 + 1) := by
    unfold S_X10_readPoint T_X10_readPoint_r13 T_X10_readPoint_r12
    generalize T_X10_readPoint_r7 κ σ τ be = r7
    generalize T_X10_readPoint_m9 κ σ τ be = m9
    rfl
  have e4 : T_X10_readPoint_r4 κ σ τ be 4 = if σ 32 = 8 then κ 3 else κ 4 := by
    unfold T_X10_readPoint_r4 T_X10_readPoint_m2
    rw [va_up_self]
  have em : T_X10_readPoint_m9 κ σ τ be = if (T_X10_readPoint_r7 κ σ τ be 4) = (-100009) then (if (S_X10_here (T_X10_readPoint_r7 κ σ τ be) τ) = 59 then ((T_X10_readPoint_r7 κ σ τ be) 4) else ((T_X10_readPoint_r7 κ σ τ be) 3)) else ((T_X10_readPoint_r7 κ σ τ be) 4) := by
    unfold T_X10_readPoint_m9
    generalize T_X10_readPoint_r7 κ σ τ be = r7
    generalize S_X10_here r7 τ = hh
    rfl
  have e15 : (S_X10_readPoint κ σ τ be).2 = if (T_X10_readPoint_r13 κ σ τ be 4) = (-100009) then (S_X10_insert_P σ ((S_X10_takeNumber (T_X10_readPoint_r4 κ σ τ be) τ (be + 1) 400).1) ((S_X10_takeNumber (T_X10_readPoint_r5 κ σ τ be) τ 0 3000).1)) else σ := by
    unfold S_X10_readPoint T_X10_readPoint_m15
    generalize T_X10_readPoint_r13 κ σ τ be = r13
    generalize (S_X10_takeNumber (T_X10_readPoint_r4 κ σ τ be) τ (be + 1) 400).1 = ke
    generalize (S_X10_takeNumber (T_X10_readPoint_r5 κ σ τ be) τ 0 3000).1 = va
    rfl
  have e134 : T_X10_readPoint_r13 κ σ τ be 4 = T_X10_readPoint_m9 κ σ τ be := by
    unfold T_X10_readPoint_r13 T_X10_readPoint_r12
    rw [va_up_ne _ _ (by decide), va_up_self]
  generalize (S_X10_takeNumber (T_X10_readPoint_r4 κ σ τ be) τ (be + 1) 400).1 = ke at e15
  generalize (S_X10_takeNumber (T_X10_readPoint_r5 κ σ τ be) τ 0 3000).1 = va at e15
  generalize T_X10_readPoint_r13 κ σ τ be = r13 at e15 e134
  generalize T_X10_readPoint_m9 κ σ τ be = m9 at em e13 e134
  generalize T_X10_readPoint_r4 κ σ τ be = r4 at e4 w
  clear i4 s4 i5 s5 i6 s6
  generalize T_X10_readPoint_r7 κ σ τ be = r7 at *
  rw [e13, e15]
  obtain ⟨k1, k2, k3⟩ := s7
  have hn' := nle hn
  have hN2 := hN.2.1
  have i3 := i7.2.2
  have e3 : (r7 3 + 1).toInt = (r7 3).toInt + 1 := ta (b := 1) (by show -2147483648 ≤ (r7 3).toInt + 1; omega) (by show (r7 3).toInt + 1 < 2147483648; omega)
  refine ⟨⟨i7.1, i7.2.1, ?_⟩, k1 2 (by decide) (by decide), ?_, ?_⟩
  · show 0 ≤ (r7 3 + 1).toInt ∧ (r7 3 + 1).toInt ≤ 1000
    omega
  · show (κ 3).toInt + 1 ≤ (r7 3 + 1).toInt
    omega
  · by_cases c : r13 4 = -100009
    · rw [if_pos c]
      have h8 : ¬ σ 32 = 8 := fun h8 => by
        rw [if_pos h8] at e4
        have hne : ¬ κ 3 = -100009 := fun z => by
          have := hN.2.2.1
          rw [z] at this
          exact absurd this (by decide)
        have h9 := w (by rw [e4]; exact hne)
        rw [h9, e4, if_neg hne] at em
        exact hne (by rw [← em, ← e134]; exact c)
      have h8' : (σ 32).toInt ≠ 8 := fun e => h8 (Int32.toInt_inj.mp e)
      rcases ins_32 (ke := ke) (va := va) hs with e | e
      · rw [e]
        have : (σ 32 + 1).toInt = (σ 32).toInt + 1 := ta (b := 1) (by show -2147483648 ≤ (σ 32).toInt + 1; omega) (by show (σ 32).toInt + 1 < 2147483648; omega)
        omega
      · rw [e]; exact hs
    · rw [if_neg c]; exact hs

