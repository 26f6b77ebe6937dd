theorem isAt_pt {σ : Nat → Int32} {li ma P ke : Int32} {L m p : Nat} (eL : li.toInt = L) (hl : L ≤ 50) (em : ma.toInt = m) (hm : m ≤ 8) (eP : P.toInt = p) (hp : p ≤ m) : S_X10_isAt σ li ma P ke = if p < m ∧ σ (L + 2 * p) = ke then 1 else 0 := by
  unfold S_X10_isAt
  by_cases c : ma ≤ P
  · have c2 := Int32.le_iff_toInt_le.mp c
    rw [em, eP] at c2
    rw [if_pos c, if_neg (by omega)]
  · have c2 := nle c
    rw [em, eP] at c2
    rw [if_neg c, (ins_ix (li := li) (L := L) (by rw [eL]; exact ⟨Int.natCast_nonneg L, by omega⟩) eL eP (by omega)).2.1]
    by_cases d : σ (L + 2 * p) = ke
    · rw [if_pos d, if_pos ⟨by omega, d⟩]
    · rw [if_neg d, if_neg (fun q => d q.2)]
theorem insP_pt {σ : Nat → Int32} {ke va : Int32} {m p : Nat} (em : (σ 32).toInt = m) (hm : m ≤ 8) (hp : IP (fun j => (σ (33 + 2 * j)).toInt) m ke.toInt p) : (∀ j, S_X10_insert_P σ ke va (32 + j) = INS (fun j => σ (32 + j)) (p < m ∧ σ (33 + 2 * p) = ke) p m ke va j) ∧ ∀ j, j < 32 → S_X10_insert_P σ ke va j = σ j := by
  obtain ⟨P, e, hP⟩ := place_ip (σ := σ) (li := 33) (ma := σ 32) (ke := ke) (L := 33) rfl (by decide) em hm
  have q := IP_uniq hP hp
  subst q
  have a := isAt_pt (σ := σ) (li := 33) (ke := ke) (L := 33) rfl (by decide) em hm e hP.1
  have hpm := hp.1
  refine ⟨fun j => ?_, fun j hj => ?_⟩
  · rw [ins_P em hm e, a]
    generalize S_X10_place σ 33 (σ 32) ke = Q at *
    unfold INS
    by_cases c : P < m ∧ σ (33 + 2 * P) = ke
    · rw [if_pos c, if_neg (by decide : ¬ (1 : Int32) = 0)]
      repeat' split
      all_goals first | rfl | omega | (congr 1; omega)
    · rw [if_neg c, if_pos (rfl : (0 : Int32) = 0), if_neg c]
      repeat' split
      all_goals first | rfl | omega | (congr 1; omega)
  · rw [ins_P em hm e, a]
    generalize S_X10_place σ 33 (σ 32) ke = Q at *
    repeat' split
    all_goals first | rfl | omega
theorem insR_pt {σ : Nat → Int32} {ke va : Int32} {m p : Nat} (em : (σ 49).toInt = m) (hm : m ≤ 8) (hp : IP (fun j => (σ (50 + 2 * j)).toInt) m ke.toInt p) : (∀ j, S_X10_insert_R σ ke va (49 + j) = INS (fun j => σ (49 + j)) (p < m ∧ σ (50 + 2 * p) = ke) p m ke va j) ∧ ∀ j, j < 49 → S_X10_insert_R σ ke va j = σ j := by
  obtain ⟨P, e, hP⟩ := place_ip (σ := σ) (li := 50) (ma := σ 49) (ke := ke) (L := 50) rfl (by decide) em hm
  have q := IP_uniq hP hp
  subst q
  have a := isAt_pt (σ := σ) (li := 50) (ke := ke) (L := 50) rfl (by decide) em hm e hP.1
  have hpm := hp.1
  refine ⟨fun j => ?_, fun j hj => ?_⟩
  · rw [ins_R em hm e, a]
    generalize S_X10_place σ 50 (σ 49) ke = Q at *
    unfold INS
    by_cases c : P < m ∧ σ (50 + 2 * P) = ke
    · rw [if_pos c, if_neg (by decide : ¬ (1 : Int32) = 0)]
      repeat' split
      all_goals first | rfl | omega | (congr 1; omega)
    · rw [if_neg c, if_pos (rfl : (0 : Int32) = 0), if_neg c]
      repeat' split
      all_goals first | rfl | omega | (congr 1; omega)
  · rw [ins_R em hm e, a]
    generalize S_X10_place σ 50 (σ 49) ke = Q at *
    repeat' split
    all_goals first | rfl | omega
theorem a_up {a : Int32} {A : Nat} (h : a.toInt = A) (hA : A ≤ 1000) : (a + 2).toInt = ((A + 2 : Nat) : Int) := by
  rw [ta (b := 2) (by rw [h]; show -2147483648 ≤ (A : Int) + 2; omega) (by rw [h]; show (A : Int) + 2 < 2147483648; omega), h]
  rfl
theorem L_outP_pt {σ : Nat → Int32} {kk : Int32} {m : Nat} (hm : m ≤ 8) : ∀ (fu : Nat) (a : Int32) (A : Nat) (σ1 : Nat → Int32), (σ1 32).toInt = m → a.toInt = A → 33 ≤ A → A ≤ 33 + 2 * m → 33 + 2 * m - A < fu → ∀ j, L_X10_takeOut_P_17 fu σ kk a σ1 j = if A ≤ j ∧ j < 33 + 2 * m then σ1 (j + 2) else σ1 j := by
  intro fu
  induction fu with
  | zero => intro _ _ _ _ _ _ _ h; exact absurd h (Nat.not_lt_zero _)
  | succ fu ih =>
    intro a A σ1 hs ha h33 hA hf j
    unfold L_X10_takeOut_P_17
    have e := (ins_ix (li := 33) (L := 33) (by decide) rfl hs hm).1.1
    by_cases c : 33 + 2 * σ1 32 ≤ a
    · rw [if_pos c]
      have c2 := Int32.le_iff_toInt_le.mp c
      rw [e, ha] at c2
      rw [if_neg (by omega)]
    · rw [if_neg c]
      have c2 := nle c
      rw [e, ha] at c2
      rw [i_eq ha, i_eq (a_up ha (by omega)), ih _ (A + 1) _ (by rw [va_up_ne _ _ (by omega)]; exact hs) (k_up ha (by omega)) (by omega) (by omega) (by omega) j]
      clear ih hs ha e c
      simp only [va_up]
      repeat' split
      all_goals first | rfl | omega | (congr 1; omega)
theorem L_outR_pt {σ : Nat → Int32} {kk : Int32} {m : Nat} (hm : m ≤ 8) : ∀ (fu : Nat) (a : Int32) (A : Nat) (σ1 : Nat → Int32), (σ1 49).toInt = m → a.toInt = A → 50 ≤ A → A ≤ 50 + 2 * m → 50 + 2 * m - A < fu → ∀ j, L_X10_takeOut_R_17 fu σ kk a σ1 j = if A ≤ j ∧ j < 50 + 2 * m then σ1 (j + 2) else σ1 j := by
  intro fu
  induction fu with
  | zero => intro _ _ _ _ _ _ _ h; exact absurd h (Nat.not_lt_zero _)
  | succ fu ih =>
    intro a A σ1 hs ha h33 hA hf j
    unfold L_X10_takeOut_R_17
    have e := (ins_ix (li := 50) (L := 50) (by decide) rfl hs hm).1.1
    by_cases c : 50 + 2 * σ1 49 ≤ a
    · rw [if_pos c]
      have c2 := Int32.le_iff_toInt_le.mp c
      rw [e, ha] at c2
      rw [if_neg (by omega)]
    · rw [if_neg c]
      have c2 := nle c
      rw [e, ha] at c2
      rw [i_eq ha, i_eq (a_up ha (by omega)), ih _ (A + 1) _ (by rw [va_up_ne _ _ (by omega)]; exact hs) (k_up ha (by omega)) (by omega) (by omega) (by omega) j]
      clear ih hs ha e c
      simp only [va_up]
      repeat' split
      all_goals first | rfl | omega | (congr 1; omega)
theorem outP_pt {σ : Nat → Int32} {kk : Int32} {m p : Nat} (em : (σ 32).toInt = m) (hm : m ≤ 8) (ek : kk.toInt = p) (hp : p < m) : (∀ j, S_X10_takeOut_P σ kk (32 + j) = OUT (fun j => σ (32 + j)) p m j) ∧ ∀ j, j < 32 → S_X10_takeOut_P σ kk j = σ j := by
  obtain ⟨m', rfl⟩ : ∃ m', m = m' + 1 := ⟨m - 1, by omega⟩
  have e1 := (k_dn em (by omega)).1
  have ex := (ins_ix (li := 33) (L := 33) (by decide) rfl ek (by omega)).1.1
  have ey := (ins_ix (li := 33) (L := 33) (by decide) rfl e1 (by omega)).1.1
  have main : ∀ j, S_X10_takeOut_P σ kk j = if 33 + 2 * p ≤ j ∧ j < 33 + 2 * m' then va_up σ 32 (σ 32 - 1) (j + 2) else va_up σ 32 (σ 32 - 1) j := fun j => by
    unfold S_X10_takeOut_P
    exact L_outP_pt (m := m') (by omega) _ _ (33 + 2 * p) _ (by rw [va_up_self]; exact e1) (by rw [ex]; omega) (by omega) (by omega) (by rw [ex, ey]; omega) j
  refine ⟨fun j => ?_, fun j hj => ?_⟩
  · rw [main]
    unfold OUT
    rw [Nat.add_sub_cancel]
    clear e1 ex ey main
    simp only [va_up]
    repeat' split
    all_goals first | rfl | omega | (congr 1; omega)
  · rw [main]
    clear e1 ex ey main
    simp only [va_up]
    repeat' split
    all_goals first | rfl | omega
theorem outR_pt {σ : Nat → Int32} {kk : Int32} {m p : Nat} (em : (σ 49).toInt = m) (hm : m ≤ 8) (ek : kk.toInt = p) (hp : p < m) : (∀ j, S_X10_takeOut_R σ kk (49 + j) = OUT (fun j => σ (49 + j)) p m j) ∧ ∀ j, j < 49 → S_X10_takeOut_R σ kk j = σ j := by
  obtain ⟨m', rfl⟩ : ∃ m', m = m' + 1 := ⟨m - 1, by omega⟩
  have e1 := (k_dn em (by omega)).1
  have ex := (ins_ix (li := 50) (L := 50) (by decide) rfl ek (by omega)).1.1
  have ey := (ins_ix (li := 50) (L := 50) (by decide) rfl e1 (by omega)).1.1
  have main : ∀ j, S_X10_takeOut_R σ kk j = if 50 + 2 * p ≤ j ∧ j < 50 + 2 * m' then va_up σ 49 (σ 49 - 1) (j + 2) else va_up σ 49 (σ 49 - 1) j := fun j => by
    unfold S_X10_takeOut_R
    exact L_outR_pt (m := m') (by omega) _ _ (50 + 2 * p) _ (by rw [va_up_self]; exact e1) (by rw [ex]; omega) (by omega) (by omega) (by rw [ex, ey]; omega) j
  refine ⟨fun j => ?_, fun j hj => ?_⟩
  · rw [main]
    unfold OUT
    rw [Nat.add_sub_cancel]
    clear e1 ex ey main
    simp only [va_up]
    repeat' split
    all_goals first | rfl | omega | (congr 1; omega)
  · rw [main]
    clear e1 ex ey main
    simp only [va_up]
    repeat' split
    all_goals first | rfl | omega
