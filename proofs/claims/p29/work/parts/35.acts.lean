/-! THE ACTIONS: each records the state and writes its four rows, which depend on the four rows alone; or it refuses and changes nothing -/
def W5 (H : Hp) (ρ π μ ν : Nat → Int32) : Hp := va_up (va_up (va_up (va_up H 2 ρ) 3 π) 4 μ) 5 ν
theorem W5_2 (H : Hp) (ρ π μ ν : Nat → Int32) : W5 H ρ π μ ν 2 = ρ ∧ W5 H ρ π μ ν 3 = π ∧ W5 H ρ π μ ν 4 = μ ∧ W5 H ρ π μ ν 5 = ν := ⟨rfl, rfl, rfl, rfl⟩
theorem W5_ne {H : Hp} {ρ π μ ν : Nat → Int32} {g : Nat} (h : g < 2 ∨ 5 < g) : W5 H ρ π μ ν g = H g := by
  unfold W5
  rw [va_up_ne _ _ (show g ≠ 5 by omega), va_up_ne _ _ (show g ≠ 4 by omega), va_up_ne _ _ (show g ≠ 3 by omega), va_up_ne _ _ (show g ≠ 2 by omega)]
theorem W5_fun {H H' : Hp} {ρ π μ ν : Nat → Int32} (h2 : H' 2 = ρ) (h3 : H' 3 = π) (h4 : H' 4 = μ) (h5 : H' 5 = ν) (hh : ∀ g, g < 2 ∨ 5 < g → H' g = H g) : H' = W5 H ρ π μ ν := by
  funext g
  by_cases c : g < 2 ∨ 5 < g
  · rw [hh g c, W5_ne c]
  · rcases (show g = 2 ∨ g = 3 ∨ g = 4 ∨ g = 5 by omega) with rfl | rfl | rfl | rfl
    · exact h2
    · exact h3
    · exact h4
    · exact h5
theorem up2 (h : Hp) (x : Nat → Int32) : va_up (S_X1_remember h) 2 x = W5 (S_X1_remember h) x (h 3) (h 4) (h 5) := W5_fun rfl ((va_up_ne _ _ (by decide)).trans (rem_low h (by decide))) ((va_up_ne _ _ (by decide)).trans (rem_low h (by decide))) ((va_up_ne _ _ (by decide)).trans (rem_low h (by decide))) (fun g hg => va_up_ne _ _ (by omega))
theorem up3 (h : Hp) (x : Nat → Int32) : va_up (S_X1_remember h) 3 x = W5 (S_X1_remember h) (h 2) x (h 4) (h 5) := W5_fun ((va_up_ne _ _ (by decide)).trans (rem_low h (by decide))) rfl ((va_up_ne _ _ (by decide)).trans (rem_low h (by decide))) ((va_up_ne _ _ (by decide)).trans (rem_low h (by decide))) (fun g hg => va_up_ne _ _ (by omega))
theorem up4 (h : Hp) (x : Nat → Int32) : va_up (S_X1_remember h) 4 x = W5 (S_X1_remember h) (h 2) (h 3) x (h 5) := W5_fun ((va_up_ne _ _ (by decide)).trans (rem_low h (by decide))) ((va_up_ne _ _ (by decide)).trans (rem_low h (by decide))) rfl ((va_up_ne _ _ (by decide)).trans (rem_low h (by decide))) (fun g hg => va_up_ne _ _ (by omega))
theorem up52 (h : Hp) (x y : Nat → Int32) : va_up (va_up (S_X1_remember h) 5 y) 2 x = W5 (S_X1_remember h) x (h 3) (h 4) y := W5_fun rfl ((va_up_ne _ _ (by decide)).trans ((va_up_ne _ _ (by decide)).trans (rem_low h (by decide)))) ((va_up_ne _ _ (by decide)).trans ((va_up_ne _ _ (by decide)).trans (rem_low h (by decide)))) rfl (fun g hg => (va_up_ne _ _ (by omega)).trans (va_up_ne _ _ (by omega)))
/-- the same state -/
def SM (h' h : Hp) : Prop := h' 2 = h 2 ∧ h' 3 = h 3 ∧ h' 4 = h 4 ∧ h' 5 = h 5
def ACT (lo : Int) (f : Hp → Int32 × Hp) : Prop := ∀ h, WH h → (∃ e : Int32, e.toInt ≤ -100001 ∧ ∀ h', SM h' h → f h' = (e, h')) ∨ ∃ (v : Int32) (ρ π μ ν : Nat → Int32), lo ≤ v.toInt ∧ W4 ρ π μ ν ∧ ∀ h', SM h' h → f h' = (v, W5 (S_X1_remember h') ρ π μ ν)
theorem ite01 (P : Prop) [Decidable P] : 0 ≤ (if P then (1 : Int32) else 0).toInt := by
  by_cases c : P
  · rw [if_pos c]; decide
  · rw [if_neg c]; decide
theorem no1 : (-100001 : Int32).toInt ≤ -100001 := by decide
theorem no2 : (-100002 : Int32).toInt ≤ -100001 := by decide
theorem no3 : (-100003 : Int32).toInt ≤ -100001 := by decide
theorem eq_setAmbient (h : Hp) {am : Int32} (c0 : ¬ S_X9_inRange am 0 400 = 0) : S_X9_setAmbient h am = (h 2 3, W5 (S_X1_remember h) (va_up (h 2) 3 am) (h 3) (h 4) (h 5)) := by
  unfold S_X9_setAmbient
  rw [if_neg c0]
  dsimp only
  rw [up2, show S_X1_remember h 2 = h 2 from rem_low h (by decide)]
theorem act_setAmbient (am : Int32) : ACT 0 (fun h => S_X9_setAmbient h am) := by
  intro h hw
  by_cases c0 : S_X9_inRange am 0 400 = 0
  · exact Or.inl ⟨-100001, no1, fun h' _ => by show S_X9_setAmbient h' am = _; unfold S_X9_setAmbient; rw [if_pos c0]⟩
  refine Or.inr ⟨h 2 3, va_up (h 2) 3 am, h 3, h 4, h 5, ?_, ⟨?_, hw.2⟩, fun h' hs => ?_⟩
  · exact (hw.1.1 3 (by decide)).1
  · exact WT_up (k := 3) hw.1 (by decide) (inR c0).1 (inR c0).2
  · show S_X9_setAmbient h' am = _
    rw [eq_setAmbient h' c0, hs.1, hs.2.1, hs.2.2.1, hs.2.2.2]
theorem eq_setPower (h : Hp) {po : Int32} (c0 : ¬ S_X9_inRange po 0 100 = 0) : S_X9_setPower h po = (h 2 7, W5 (S_X1_remember h) (va_up (h 2) 7 po) (h 3) (h 4) (h 5)) := by
  unfold S_X9_setPower
  rw [if_neg c0]
  dsimp only
  rw [up2, show S_X1_remember h 2 = h 2 from rem_low h (by decide)]
theorem act_setPower (po : Int32) : ACT 0 (fun h => S_X9_setPower h po) := by
  intro h hw
  by_cases c0 : S_X9_inRange po 0 100 = 0
  · exact Or.inl ⟨-100001, no1, fun h' _ => by show S_X9_setPower h' po = _; unfold S_X9_setPower; rw [if_pos c0]⟩
  refine Or.inr ⟨h 2 7, va_up (h 2) 7 po, h 3, h 4, h 5, ?_, ⟨?_, hw.2⟩, fun h' hs => ?_⟩
  · exact (hw.1.1 7 (by decide)).1
  · exact WT_up (k := 7) hw.1 (by decide) (inR c0).1 (inR c0).2
  · show S_X9_setPower h' po = _
    rw [eq_setPower h' c0, hs.1, hs.2.1, hs.2.2.1, hs.2.2.2]
theorem eq_setController (h : Hp) {on pp ii bi : Int32} (c0 : ¬ S_X9_inRange on 0 1 = 0) (c1 : ¬ S_X9_inRange pp 0 200 = 0) (c2 : ¬ S_X9_inRange ii 0 200 = 0) (c3 : ¬ S_X9_inRange bi 0 100 = 0) : S_X9_setController h on pp ii bi = ((if (if h 2 9 = on then (if h 2 10 = pp then (if h 2 11 = ii then (if h 2 12 = bi then (1 : Int32) else 0) else 0) else 0) else 0) = 0 then (1 : Int32) else 0), W5 (S_X1_remember h) (va_up (va_up (va_up (va_up (h 2) 9 on) 10 pp) 11 ii) 12 bi) (h 3) (h 4) (h 5)) := by
  unfold S_X9_setController
  rw [if_neg c0, if_neg c1, if_neg c2, if_neg c3]
  dsimp only
  rw [up2, show S_X1_remember h 2 = h 2 from rem_low h (by decide)]
theorem act_setController (on pp ii bi : Int32) : ACT 0 (fun h => S_X9_setController h on pp ii bi) := by
  intro h hw
  by_cases c0 : S_X9_inRange on 0 1 = 0
  · exact Or.inl ⟨-100001, no1, fun h' _ => by show S_X9_setController h' on pp ii bi = _; unfold S_X9_setController; rw [if_pos c0]⟩
  by_cases c1 : S_X9_inRange pp 0 200 = 0
  · exact Or.inl ⟨-100001, no1, fun h' _ => by show S_X9_setController h' on pp ii bi = _; unfold S_X9_setController; rw [if_neg c0, if_pos c1]⟩
  by_cases c2 : S_X9_inRange ii 0 200 = 0
  · exact Or.inl ⟨-100001, no1, fun h' _ => by show S_X9_setController h' on pp ii bi = _; unfold S_X9_setController; rw [if_neg c0, if_neg c1, if_pos c2]⟩
  by_cases c3 : S_X9_inRange bi 0 100 = 0
  · exact Or.inl ⟨-100001, no1, fun h' _ => by show S_X9_setController h' on pp ii bi = _; unfold S_X9_setController; rw [if_neg c0, if_neg c1, if_neg c2, if_pos c3]⟩
  refine Or.inr ⟨(if (if h 2 9 = on then (if h 2 10 = pp then (if h 2 11 = ii then (if h 2 12 = bi then (1 : Int32) else 0) else 0) else 0) else 0) = 0 then (1 : Int32) else 0), va_up (va_up (va_up (va_up (h 2) 9 on) 10 pp) 11 ii) 12 bi, h 3, h 4, h 5, ?_, ⟨?_, hw.2⟩, fun h' hs => ?_⟩
  · exact ite01 _
  · exact WT_up (k := 12) (WT_up (k := 11) (WT_up (k := 10) (WT_up (k := 9) hw.1 (by decide) (i32 _).1 (i32 _).2) (by decide) (i32 _).1 (i32 _).2) (by decide) (i32 _).1 (i32 _).2) (by decide) (i32 _).1 (i32 _).2
  · show S_X9_setController h' on pp ii bi = _
    rw [eq_setController h' c0 c1 c2 c3, hs.1, hs.2.1, hs.2.2.1, hs.2.2.2]
theorem eq_setProbe (h : Hp) {la fo : Int32} (c0 : ¬ S_X9_inRange la 1 60 = 0) (c1 : ¬ S_X9_inRange fo 0 5 = 0) : S_X9_setProbe h la fo = (h 2 5, W5 (S_X1_remember h) (va_up (va_up (h 2) 5 la) 6 fo) (h 3) (h 4) (h 5)) := by
  unfold S_X9_setProbe
  rw [if_neg c0, if_neg c1]
  dsimp only
  rw [up2, show S_X1_remember h 2 = h 2 from rem_low h (by decide)]
theorem act_setProbe (la fo : Int32) : ACT 0 (fun h => S_X9_setProbe h la fo) := by
  intro h hw
  by_cases c0 : S_X9_inRange la 1 60 = 0
  · exact Or.inl ⟨-100001, no1, fun h' _ => by show S_X9_setProbe h' la fo = _; unfold S_X9_setProbe; rw [if_pos c0]⟩
  by_cases c1 : S_X9_inRange fo 0 5 = 0
  · exact Or.inl ⟨-100001, no1, fun h' _ => by show S_X9_setProbe h' la fo = _; unfold S_X9_setProbe; rw [if_neg c0, if_pos c1]⟩
  refine Or.inr ⟨h 2 5, va_up (va_up (h 2) 5 la) 6 fo, h 3, h 4, h 5, ?_, ⟨?_, hw.2⟩, fun h' hs => ?_⟩
  · exact Int.le_trans (by decide) (hw.1.1 5 (by decide)).1
  · exact WT_up (k := 6) (WT_up (k := 5) hw.1 (by decide) (inR c0).1 (inR c0).2) (by decide) (inR c1).1 (inR c1).2
  · show S_X9_setProbe h' la fo = _
    rw [eq_setProbe h' c0 c1, hs.1, hs.2.1, hs.2.2.1, hs.2.2.2]
theorem eq_setCrack (h : Hp) {te th : Int32} (c0 : ¬ S_X9_inRange te 1500 2300 = 0) (c1 : ¬ S_X9_inRange th 1 600 = 0) : S_X9_setCrack h te th = ((if (if h 2 14 = te then (if h 2 15 = th then (1 : Int32) else 0) else 0) = 0 then (1 : Int32) else 0), W5 (S_X1_remember h) (va_up (va_up (h 2) 14 te) 15 th) (h 3) (h 4) (h 5)) := by
  unfold S_X9_setCrack
  rw [if_neg c0, if_neg c1]
  dsimp only
  rw [up2, show S_X1_remember h 2 = h 2 from rem_low h (by decide)]
theorem act_setCrack (te th : Int32) : ACT 0 (fun h => S_X9_setCrack h te th) := by
  intro h hw
  by_cases c0 : S_X9_inRange te 1500 2300 = 0
  · exact Or.inl ⟨-100001, no1, fun h' _ => by show S_X9_setCrack h' te th = _; unfold S_X9_setCrack; rw [if_pos c0]⟩
  by_cases c1 : S_X9_inRange th 1 600 = 0
  · exact Or.inl ⟨-100001, no1, fun h' _ => by show S_X9_setCrack h' te th = _; unfold S_X9_setCrack; rw [if_neg c0, if_pos c1]⟩
  refine Or.inr ⟨(if (if h 2 14 = te then (if h 2 15 = th then (1 : Int32) else 0) else 0) = 0 then (1 : Int32) else 0), va_up (va_up (h 2) 14 te) 15 th, h 3, h 4, h 5, ?_, ⟨?_, hw.2⟩, fun h' hs => ?_⟩
  · exact ite01 _
  · exact WT_up (k := 15) (WT_up (k := 14) hw.1 (by decide) (Int.le_trans (by decide) (inR c0).1) (Int.le_trans (inR c0).2 (by decide))) (by decide) (i32 _).1 (i32 _).2
  · show S_X9_setCrack h' te th = _
    rw [eq_setCrack h' c0 c1, hs.1, hs.2.1, hs.2.2.1, hs.2.2.2]
theorem eq_setFan (h : Hp) {fa : Int32} (c0 : ¬ S_X9_inRange fa 1 50 = 0) : S_X9_setFan h fa = (h 2 8, W5 (S_X1_remember h) (va_up (h 2) 8 fa) (h 3) (h 4) (h 5)) := by
  unfold S_X9_setFan
  rw [if_neg c0]
  dsimp only
  rw [up2, show S_X1_remember h 2 = h 2 from rem_low h (by decide)]
theorem act_setFan (fa : Int32) : ACT 0 (fun h => S_X9_setFan h fa) := by
  intro h hw
  by_cases c0 : S_X9_inRange fa 1 50 = 0
  · exact Or.inl ⟨-100001, no1, fun h' _ => by show S_X9_setFan h' fa = _; unfold S_X9_setFan; rw [if_pos c0]⟩
  refine Or.inr ⟨h 2 8, va_up (h 2) 8 fa, h 3, h 4, h 5, ?_, ⟨?_, hw.2⟩, fun h' hs => ?_⟩
  · exact Int.le_trans (by decide) (hw.1.1 8 (by decide)).1
  · exact WT_up (k := 8) hw.1 (by decide) (inR c0).1 (inR c0).2
  · show S_X9_setFan h' fa = _
    rw [eq_setFan h' c0, hs.1, hs.2.1, hs.2.2.1, hs.2.2.2]
theorem act_setPoint (ti te : Int32) : ACT 0 (fun h => S_X9_setPoint h ti te) := by
  intro h hw
  by_cases c0 : S_X9_inRange ti 0 400 = 0
  · exact Or.inl ⟨-100001, no1, fun h' _ => by show S_X9_setPoint h' ti te = _; unfold S_X9_setPoint; rw [if_pos c0]⟩
  by_cases c1 : S_X9_inRange te 0 3000 = 0
  · exact Or.inl ⟨-100001, no1, fun h' _ => by show S_X9_setPoint h' ti te = _; unfold S_X9_setPoint; rw [if_neg c0, if_pos c1]⟩
  by_cases c2 : S_X6_hasRoomFor (h 3) 8 ti = 0
  · exact Or.inl ⟨-100003, no3, fun h' hs => by show S_X9_setPoint h' ti te = _; unfold S_X9_setPoint; rw [if_neg c0, if_neg c1, hs.2.1, if_pos c2]⟩
  have w := set_bd (n := 8) (hi := 3000) (key := ti) (v := te) (by decide) (by decide) (inR c1) hw.2.1
  refine Or.inr ⟨S_X6_set (h 3) 8 ti te 0, h 2, S_X6_set (h 3) 8 ti te, h 4, h 5, w.1.1, ⟨hw.1, w, hw.2.2⟩, fun h' hs => ?_⟩
  show S_X9_setPoint h' ti te = _
  unfold S_X9_setPoint
  rw [if_neg c0, if_neg c1, hs.2.1, if_neg c2]
  dsimp only
  rw [up3, show S_X1_remember h' 3 = h' 3 from rem_low h' (by decide), hs.1, hs.2.1, hs.2.2.1, hs.2.2.2]
theorem act_removePoint (ti : Int32) : ACT 0 (fun h => S_X9_removePoint h ti) := by
  intro h hw
  by_cases c0 : S_X9_inRange ti 0 400 = 0
  · exact Or.inl ⟨-100001, no1, fun h' _ => by show S_X9_removePoint h' ti = _; unfold S_X9_removePoint; rw [if_pos c0]⟩
  by_cases c1 : S_X6_has (h 3) 8 ti = 0
  · exact Or.inl ⟨-100002, no2, fun h' hs => by show S_X9_removePoint h' ti = _; unfold S_X9_removePoint; rw [if_neg c0, hs.2.1, if_pos c1]⟩
  refine Or.inr ⟨S_X6_valueBelow (h 3) 8 ti, h 2, S_X6_remove (h 3) 8 ti, h 4, h 5, (below_bd (by decide) (by decide) hw.2.1.2 ti).1, ⟨hw.1, rem_bd (by decide) (by decide) hw.2.1, hw.2.2⟩, fun h' hs => ?_⟩
  show S_X9_removePoint h' ti = _
  unfold S_X9_removePoint
  rw [if_neg c0, hs.2.1, if_neg c1]
  dsimp only
  rw [up3, show S_X1_remember h' 3 = h' 3 from rem_low h' (by decide), hs.1, hs.2.1, hs.2.2.1, hs.2.2.2]
theorem act_setRow (te ra : Int32) : ACT 0 (fun h => S_X9_setRow h te ra) := by
  intro h hw
  by_cases c0 : S_X9_inRange te 0 3000 = 0
  · exact Or.inl ⟨-100001, no1, fun h' _ => by show S_X9_setRow h' te ra = _; unfold S_X9_setRow; rw [if_pos c0]⟩
  by_cases c1 : S_X9_inRange ra (-1) 999 = 0
  · exact Or.inl ⟨-100001, no1, fun h' _ => by show S_X9_setRow h' te ra = _; unfold S_X9_setRow; rw [if_neg c0, if_pos c1]⟩
  by_cases c2 : ra = -1
  · have z : ¬ (if ra = -1 then (1 : Int32) else 0) = 0 := by rw [if_pos c2]; decide
    by_cases c3 : S_X6_has (h 4) 6 te = 0
    · exact Or.inl ⟨-100002, no2, fun h' hs => by show S_X9_setRow h' te ra = _; unfold S_X9_setRow; rw [if_neg c0, if_neg c1]; dsimp only; rw [if_neg z, hs.2.2.1, if_pos c3]⟩
    have w := rem_bd (n := 6) (hi := 999) (key := te) (by decide) (by decide) hw.2.2.1
    refine Or.inr ⟨S_X6_remove (h 4) 6 te 0, h 2, h 3, S_X6_remove (h 4) 6 te, h 5, w.1.1, ⟨hw.1, hw.2.1, w, hw.2.2.2⟩, fun h' hs => ?_⟩
    show S_X9_setRow h' te ra = _
    unfold S_X9_setRow
    rw [if_neg c0, if_neg c1]
    dsimp only
    rw [if_neg z, hs.2.2.1, if_neg c3, up4, show S_X1_remember h' 4 = h' 4 from rem_low h' (by decide), hs.1, hs.2.1, hs.2.2.1, hs.2.2.2]
  · have z : (if ra = -1 then (1 : Int32) else 0) = 0 := if_neg c2
    by_cases c3 : S_X6_hasRoomFor (h 4) 6 te = 0
    · exact Or.inl ⟨-100003, no3, fun h' hs => by show S_X9_setRow h' te ra = _; unfold S_X9_setRow; rw [if_neg c0, if_neg c1]; dsimp only; rw [if_pos z, hs.2.2.1, if_pos c3]⟩
    have rb := inR c1
    have zm : (-1 : Int32).toInt = -1 := rfl
    have z9 : (999 : Int32).toInt = 999 := rfl
    have rn : ra.toInt ≠ -1 := fun q => c2 (Int32.toInt_inj.mp q)
    have w := set_bd (n := 6) (hi := 999) (key := te) (v := ra) (by decide) (by decide) (by omega) hw.2.2.1
    refine Or.inr ⟨S_X6_set (h 4) 6 te ra 0, h 2, h 3, S_X6_set (h 4) 6 te ra, h 5, w.1.1, ⟨hw.1, hw.2.1, w, hw.2.2.2⟩, fun h' hs => ?_⟩
    show S_X9_setRow h' te ra = _
    unfold S_X9_setRow
    rw [if_neg c0, if_neg c1]
    dsimp only
    rw [if_pos z, hs.2.2.1, if_neg c3, up4, show S_X1_remember h' 4 = h' 4 from rem_low h' (by decide), hs.1, hs.2.1, hs.2.2.1, hs.2.2.2]

theorem L_start_pt {ρ : Nat → Int32} {ma am : Int32} : ∀ (fu : Nat) (k : Int32) (K : Nat) (ρ1 : Nat → Int32), k.toInt = K → K ≤ 6 → 6 - K < fu → ∀ j, L_X0_start_27 fu ρ ma am k ρ1 j = if j = 25 then am else if j = 24 ∨ j = 23 then -100009 else if 26 + K ≤ j ∧ j < 32 then 0 else ρ1 j := by
  intro fu
  induction fu with
  | zero => intro _ _ _ _ _ h; exact absurd h (Nat.not_lt_zero _)
  | succ fu ih =>
    intro k K ρ1 hk hK hf j
    unfold L_X0_start_27
    have z : (6 : Int32).toInt = 6 := rfl
    by_cases c : 6 ≤ k
    · have c2 := Int32.le_iff_toInt_le.mp c
      rw [hk, z] at c2
      rw [if_pos c]
      clear ih hk c z
      simp only [va_up]
      repeat' split
      all_goals first | rfl | omega
    · have c2 := nle c
      rw [hk, z] at c2
      rw [if_neg c, S_put_in hk (by omega) (by decide)]
      try dsimp only
      rw [ih _ (K + 1) _ (k_up hk (by omega)) (by omega) (by omega) j]
      clear ih hk c z
      simp only [va_up]
      repeat' split
      all_goals first | rfl | omega
theorem batch_pt {ρ : Nat → Int32} {ma : Int32} (j : Nat) : S_X4_startBatch ρ ma j = if j = 13 then 0 else if j = 1 then 1 else if j = 25 then ρ 3 else if j = 24 ∨ j = 23 then -100009 else if 26 ≤ j ∧ j < 32 then 0 else if j = 20 ∨ j = 19 ∨ j = 18 then 0 else if j = 17 then ma else if j = 16 then ρ 3 else ρ j := by
  unfold S_X4_startBatch S_X0_start
  try dsimp only
  have q := fun ρ1 j => L_start_pt (ρ := ρ) (ma := ma) (am := ρ 3) 7 0 0 ρ1 rfl (by decide) (by decide) j
  generalize L_X0_start_27 7 ρ ma (ρ 3) 0 = X at q ⊢
  simp only [va_up, q]
  clear q
  repeat' split
  all_goals first | rfl | omega
theorem WT_batch {ρ : Nat → Int32} {ma : Int32} (h : WT 0 0 ρ) (hm : 0 ≤ ma.toInt ∧ ma.toInt ≤ 1000) : WT 0 0 (S_X4_startBatch ρ ma) := by
  have b := fun j => batch_pt (ρ := ρ) (ma := ma) j
  generalize S_X4_startBatch ρ ma = Y at b ⊢
  have b3 : 0 ≤ (ρ 3).toInt ∧ (ρ 3).toInt ≤ 400 := h.1 3 (by decide)
  have y0 : Y 0 = ρ 0 := b 0
  have y1 : Y 1 = 1 := b 1
  have y13 : Y 13 = 0 := b 13
  have y16 : Y 16 = ρ 3 := b 16
  have y17 : Y 17 = ma := b 17
  have y18 : Y 18 = 0 := b 18
  have y19 : Y 19 = 0 := b 19
  have y20 : Y 20 = 0 := b 20
  have y23 : Y 23 = -100009 := b 23
  have y24 : Y 24 = -100009 := b 24
  have y25 : Y 25 = ρ 3 := b 25
  have y26 : Y 26 = 0 := b 26
  have y27 : Y 27 = 0 := b 27
  have y28 : Y 28 = 0 := b 28
  have y29 : Y 29 = 0 := b 29
  have y30 : Y 30 = 0 := b 30
  have y31 : Y 31 = 0 := b 31
  have z0 : (0 : Int32).toInt = 0 := rfl
  refine ⟨fun k hk => ?_, ?_⟩
  · by_cases c : k = 1 ∨ k = 13 ∨ 16 ≤ k
    · rcases (show k = 1 ∨ k = 13 ∨ k = 16 ∨ k = 17 ∨ k = 18 ∨ k = 19 ∨ k = 20 ∨ k = 21 ∨ k = 22 ∨ k = 23 ∨ k = 24 ∨ k = 25 ∨ k = 26 ∨ k = 27 ∨ k = 28 ∨ k = 29 ∨ k = 30 ∨ k = 31 by omega) with rfl | rfl | rfl | rfl | rfl | rfl | rfl | rfl | rfl | rfl | rfl | rfl | rfl | rfl | rfl | rfl | rfl | rfl
      · rw [y1]; decide
      · rw [y13]; decide
      · rw [y16]; show -1000 ≤ _ ∧ _ ≤ 5000; omega
      · rw [y17]; exact hm
      · rw [y18]; decide
      · rw [y19]; decide
      · rw [y20]; decide
      · exact i32 _
      · exact i32 _
      · exact i32 _
      · exact i32 _
      · exact i32 _
      · rw [y26]; decide
      · rw [y27]; decide
      · rw [y28]; decide
      · rw [y29]; decide
      · rw [y30]; decide
      · rw [y31]; decide
    · have e : Y k = ρ k := by
        rw [b k, if_neg (by omega), if_neg (by omega), if_neg (by omega), if_neg (by omega), if_neg (by omega), if_neg (by omega), if_neg (by omega), if_neg (by omega)]
      rw [e]
      exact h.1 k hk
  · unfold WQ
    rw [y0, y1, y16, y18, y19, y20, y23, y24, y25, y26, y27, y28, y29, y30, y31]
    have b0 : 0 ≤ (ρ 0).toInt := (h.1 0 (by decide)).1
    refine ⟨by rw [z0]; exact b0, by rw [z0]; omega, fun _ => Int.le_refl _, by rw [z0]; omega, Or.inl rfl, Or.inl rfl⟩
theorem eq_charge (h : Hp) {ma : Int32} (c0 : ¬ S_X9_inRange ma 100 1000 = 0) (c1 : h 2 1 = 0) : S_X9_charge h ma = (S_X4_startBatch (h 2) ma 2, W5 (S_X1_remember h) (S_X4_startBatch (h 2) ma) (h 3) (h 4) (h 5)) := by
  unfold S_X9_charge
  rw [if_neg c0, if_pos c1]
  dsimp only
  rw [up2, show S_X1_remember h 2 = h 2 from rem_low h (by decide)]
theorem act_charge (ma : Int32) : ACT (-1000) (fun h => S_X9_charge h ma) := by
  intro h hw
  by_cases c0 : S_X9_inRange ma 100 1000 = 0
  · exact Or.inl ⟨-100001, no1, fun h' _ => by show S_X9_charge h' ma = _; unfold S_X9_charge; rw [if_pos c0]⟩
  by_cases c1 : h 2 1 = 0
  · have w := WT_batch hw.1 (ma := ma) ⟨Int.le_trans (by decide) (inR c0).1, (inR c0).2⟩
    refine Or.inr ⟨S_X4_startBatch (h 2) ma 2, S_X4_startBatch (h 2) ma, h 3, h 4, h 5, (w.1 2 (by decide)).1, ⟨w, hw.2⟩, fun h' hs => ?_⟩
    show S_X9_charge h' ma = _
    rw [eq_charge h' c0 (by rw [hs.1]; exact c1), hs.1, hs.2.1, hs.2.2.1, hs.2.2.2]
  · exact Or.inl ⟨-100002, no2, fun h' hs => by show S_X9_charge h' ma = _; unfold S_X9_charge; rw [if_neg c0, hs.1, if_neg c1]⟩
theorem WT_ph {ρ : Nat → Int32} {v : Int32} (h : WT 0 0 ρ) (hv : v = 0 ∨ v = 2) : WT 0 0 (va_up ρ 1 v) := by
  obtain ⟨q1, q2, q3, q4, q5, q6⟩ := h.2
  refine ⟨BD_up h.1 ?_ ?_, q1, q2, fun z => ?_, q4, q5, q6⟩
  · rcases hv with rfl | rfl <;> decide
  · rcases hv with rfl | rfl <;> decide
  · have z' : v = 1 := z
    rcases hv with rfl | rfl <;> exact absurd z' (by decide)
theorem act_drop : ACT 0 S_X9_drop := by
  intro h hw
  by_cases c1 : h 2 1 = 1
  · have w := WT_ph hw.1 (v := 2) (Or.inr rfl)
    obtain ⟨r, er⟩ : ∃ r, va_up (h 2) 1 2 = r := ⟨_, rfl⟩
    rw [er] at w
    have b5 : 1 ≤ (r 5).toInt ∧ (r 5).toInt ≤ 60 := w.1 5 (by decide)
    have b6 : 0 ≤ (r 6).toInt ∧ (r 6).toInt ≤ 5 := w.1 6 (by decide)
    have e : (r 5 + r 6).toInt = (r 5).toInt + (r 6).toInt := ta (by omega) (by omega)
    have m := min_t (r 5 + r 6) 60
    have z60 : (60 : Int32).toInt = 60 := rfl
    rw [e, z60] at m
    obtain ⟨x, ex⟩ : ∃ x, S_J9_min_7cf53 (r 5 + r 6) 60 = x := ⟨_, rfl⟩
    rw [ex] at m
    have bx : 1 ≤ x.toInt ∧ x.toInt ≤ 60 := by split at m <;> omega
    refine Or.inr ⟨va_up r 5 x 19, va_up r 5 x, h 3, h 4, S_X2_enter (h 5) r, ?_, ⟨WT_up (k := 5) w (by decide) bx.1 bx.2, hw.2.1, hw.2.2.1, LG_enter hw.2.2.2⟩, fun h' hs => ?_⟩
    · show 0 ≤ (r 19).toInt
      exact (w.1 19 (by decide)).1
    · unfold S_X9_drop
      rw [if_pos (by rw [hs.1]; exact c1)]
      dsimp only
      rw [up52, show S_X1_remember h' 2 = h' 2 from rem_low h' (by decide), show S_X1_remember h' 5 = h' 5 from rem_low h' (by decide), hs.1, hs.2.1, hs.2.2.1, hs.2.2.2, er, ex]
  · exact Or.inl ⟨-100002, no2, fun h' hs => by unfold S_X9_drop; rw [hs.1, if_neg c1]⟩
theorem act_takeAway : ACT (-1000) S_X9_takeAway := by
  intro h hw
  by_cases c1 : h 2 1 = 2
  · by_cases c2 : h 2 16 - h 2 3 ≤ 150
    · have w := WT_ph hw.1 (v := 0) (Or.inl rfl)
      refine Or.inr ⟨va_up (h 2) 1 0 16, va_up (h 2) 1 0, h 3, h 4, h 5, (w.1 16 (by decide)).1, ⟨w, hw.2⟩, fun h' hs => ?_⟩
      unfold S_X9_takeAway
      rw [hs.1, if_pos c1, if_pos c2]
      dsimp only
      rw [up2, show S_X1_remember h' 2 = h' 2 from rem_low h' (by decide), hs.1, hs.2.1, hs.2.2.1, hs.2.2.2]
    · exact Or.inl ⟨-100002, no2, fun h' hs => by unfold S_X9_takeAway; rw [hs.1, if_pos c1, if_neg c2]⟩
  · exact Or.inl ⟨-100002, no2, fun h' hs => by unfold S_X9_takeAway; rw [hs.1, if_neg c1]⟩
def RR (h : Hp) (ti : Int32) : Nat → Int32 := LR ((ti.toInt - (0 : Int32).toInt).toNat + 1) ti 0 (h 2) (h 3) (h 4)
theorem eq_run (h : Hp) {ti : Int32} (c0 : ¬ S_X9_inRange ti 1 200 = 0) (c1 : h 2 0 + ti ≤ 10000) : S_X9_run h ti = (RR h ti 4, W5 (S_X1_remember h) (RR h ti) (h 3) (h 4) (h 5)) := by
  unfold S_X9_run
  rw [if_neg c0, if_pos c1]
  dsimp only
  rw [run_row _ _ _ (Nat.lt_succ_self _), up2, show S_X1_remember h 2 = h 2 from rem_low h (by decide), show S_X1_remember h 3 = h 3 from rem_low h (by decide), show S_X1_remember h 4 = h 4 from rem_low h (by decide)]
  rfl
theorem RR_bd {h : Hp} {ti : Int32} (hw : WH h) (c0 : ¬ S_X9_inRange ti 1 200 = 0) (c1 : h 2 0 + ti ≤ 10000) : WT 0 0 (RR h ti) ∧ RR h ti 1 = h 2 1 := by
  have q := inR c0
  have z1 : (1 : Int32).toInt = 1 := rfl
  have z2 : (200 : Int32).toInt = 200 := rfl
  have z3 : (10000 : Int32).toInt = 10000 := rfl
  have b0 : 0 ≤ (h 2 0).toInt ∧ (h 2 0).toInt ≤ 10000 := hw.1.1 0 (by decide)
  have c2 := Int32.le_iff_toInt_le.mp c1
  have e : (h 2 0 + ti).toInt = (h 2 0).toInt + ti.toInt := ta (by omega) (by omega)
  rw [e, z3] at c2
  obtain ⟨T, eT⟩ : ∃ T : Nat, ti.toInt = T := ⟨ti.toInt.toNat, by omega⟩
  exact LR_bd eT (by omega) hw.2.2.1.2 _ 0 0 (h 2) rfl (Nat.zero_le _) hw.1 (by omega)
theorem act_run (ti : Int32) : ACT (-1000) (fun h => S_X9_run h ti) := by
  intro h hw
  by_cases c0 : S_X9_inRange ti 1 200 = 0
  · exact Or.inl ⟨-100001, no1, fun h' _ => by show S_X9_run h' ti = _; unfold S_X9_run; rw [if_pos c0]⟩
  by_cases c1 : h 2 0 + ti ≤ 10000
  · have w := (RR_bd hw c0 c1).1
    refine Or.inr ⟨RR h ti 4, RR h ti, h 3, h 4, h 5, (w.1 4 (by decide)).1, ⟨w, hw.2⟩, fun h' hs => ?_⟩
    show S_X9_run h' ti = _
    have er : RR h' ti = RR h ti := by unfold RR; rw [hs.1, hs.2.1, hs.2.2.1]
    rw [eq_run h' c0 (by rw [hs.1]; exact c1), er, hs.2.1, hs.2.2.1, hs.2.2.2]
  · exact Or.inl ⟨-100003, no3, fun h' hs => by show S_X9_run h' ti = _; unfold S_X9_run; rw [if_neg c0, hs.1, if_neg c1]⟩
/-- the law's act: an action, or nothing -/
def ACL (f : Hp → Int32 × Hp) : Prop := ∀ h, WH h → (∃ e : Int32, e.toInt < 0 ∧ ∀ h', SM h' h → f h' = (e, h')) ∨ ∃ (v : Int32) (ρ π μ ν : Nat → Int32), 0 ≤ v.toInt ∧ W4 ρ π μ ν ∧ ∀ h', SM h' h → f h' = (v, W5 (S_X1_remember h') ρ π μ ν)
theorem ACL_of {f : Hp → Int32 × Hp} (a : ACT 0 f) : ACL (fun h => ((f h).1, (f h).2)) := fun h hw => by
  rcases a h hw with ⟨e, h1, h2⟩ | ⟨v, ρ, π, μ, ν, h1, h2, h3⟩
  · exact Or.inl ⟨e, by omega, fun h' hs => by dsimp only; rw [h2 h' hs]⟩
  · exact Or.inr ⟨v, ρ, π, μ, ν, h1, h2, fun h' hs => by dsimp only; rw [h3 h' hs]⟩
theorem ACL_ok {f : Hp → Int32 × Hp} (a : ACT (-1000) f) : ACL (fun h => ((if (f h).1 < -50000 then (-1 : Int32) else 1), (f h).2)) := fun h hw => by
  have z5 : (-50000 : Int32).toInt = -50000 := rfl
  rcases a h hw with ⟨e, h1, h2⟩ | ⟨v, ρ, π, μ, ν, h1, h2, h3⟩
  · refine Or.inl ⟨-1, by decide, fun h' hs => ?_⟩
    dsimp only
    rw [h2 h' hs]
    dsimp only
    rw [if_pos (Int32.lt_iff_toInt_lt.mpr (by omega))]
  · refine Or.inr ⟨1, ρ, π, μ, ν, by decide, h2, fun h' hs => ?_⟩
    dsimp only
    rw [h3 h' hs]
    dsimp only
    rw [if_neg (fun q => by have := Int32.lt_iff_toInt_lt.mp q; omega)]
theorem ACL_if {P : Prop} [Decidable P] {f g : Hp → Int32 × Hp} (a : ACL f) (b : ACL g) : ACL (fun h => if P then f h else g h) := by
  by_cases c : P
  · intro h hw
    rcases a h hw with ⟨e, h1, h2⟩ | ⟨v, ρ, π, μ, ν, h1, h2, h3⟩
    · exact Or.inl ⟨e, h1, fun h' hs => by show (if P then f h' else g h') = _; rw [if_pos c]; exact h2 h' hs⟩
    · exact Or.inr ⟨v, ρ, π, μ, ν, h1, h2, fun h' hs => by show (if P then f h' else g h') = _; rw [if_pos c]; exact h3 h' hs⟩
  · intro h hw
    rcases b h hw with ⟨e, h1, h2⟩ | ⟨v, ρ, π, μ, ν, h1, h2, h3⟩
    · exact Or.inl ⟨e, h1, fun h' hs => by show (if P then f h' else g h') = _; rw [if_neg c]; exact h2 h' hs⟩
    · exact Or.inr ⟨v, ρ, π, μ, ν, h1, h2, fun h' hs => by show (if P then f h' else g h') = _; rw [if_neg c]; exact h3 h' hs⟩
theorem act_law (yy : Int32) : ACL (fun h => S_L_act h yy) := by
  unfold S_L_act
  refine ACL_if (ACL_of (act_setAmbient _)) ?_
  refine ACL_if (ACL_of (act_setPower _)) ?_
  refine ACL_if (ACL_of (act_setController _ _ _ _)) ?_
  refine ACL_if (ACL_of (act_setProbe _ _)) ?_
  refine ACL_if (ACL_of (act_setCrack _ _)) ?_
  refine ACL_if (ACL_of (act_setFan _)) ?_
  refine ACL_if (ACL_of (act_setPoint _ _)) ?_
  refine ACL_if (ACL_of (act_removePoint _)) ?_
  refine ACL_if (ACL_of (act_setRow _ _)) ?_
  refine ACL_if (ACL_ok (act_charge _)) ?_
  refine ACL_if (ACL_of act_drop) ?_
  refine ACL_if (ACL_ok act_takeAway) ?_
  exact ACL_ok (act_run _)
