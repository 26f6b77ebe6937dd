/-- A TICK keeps it all -/
theorem WT_tick {ρ π μ : Nat → Int32} (h : WT 0 0 ρ) (ht : (ρ 0).toInt + 1 ≤ 10000) (hμ : VB 6 999 μ) : WT 0 0 (S_X4_tick ρ π μ) ∧ S_X4_tick ρ π μ 0 = ρ 0 + 1 ∧ S_X4_tick ρ π μ 1 = ρ 1 := by
  have b0 : 0 ≤ (ρ 0).toInt ∧ (ρ 0).toInt ≤ 10000 := h.1 0 (by decide)
  have b18 : 0 ≤ (ρ 18).toInt ∧ (ρ 18).toInt ≤ 10000 := h.1 18 (by decide)
  have e0 : (ρ 0 + 1).toInt = (ρ 0).toInt + 1 := ta (b := 1) (by show -2147483648 ≤ (ρ 0).toInt + 1; omega) (by show (ρ 0).toInt + 1 < 2147483648; omega)
  have e18 : (ρ 18 + 1).toInt = (ρ 18).toInt + 1 := ta (b := 1) (by show -2147483648 ≤ (ρ 18).toInt + 1; omega) (by show (ρ 18).toInt + 1 < 2147483648; omega)
  obtain ⟨q1, q2, q3, q4, q5, q6⟩ := h.2
  have B0 : BD (va_up ρ 0 (ρ 0 + 1)) := BD_up h.1 (by rw [e0]; show 0 ≤ _; omega) (by rw [e0]; show _ ≤ 10000; omega)
  obtain ⟨r1, e1⟩ : ∃ x, T_X4_tick_r1 ρ π μ = x := ⟨_, rfl⟩
  have d1 : r1 = va_up ρ 0 (ρ 0 + 1) := e1.symm
  obtain ⟨m3, e3⟩ : ∃ x, T_X4_tick_m3 ρ π μ = x := ⟨_, rfl⟩
  obtain ⟨r7, e7⟩ : ∃ x, T_X4_tick_r7 ρ π μ = x := ⟨_, rfl⟩
  obtain ⟨m9, e9⟩ : ∃ x, T_X4_tick_m9 ρ π μ = x := ⟨_, rfl⟩
  obtain ⟨r16, e16⟩ : ∃ x, T_X4_tick_r16 ρ π μ = x := ⟨_, rfl⟩
  have d7 : r7 = S_X4_moveDrum m3 := by rw [← e7, ← e3]; rfl
  have d16 : r16 = S_X4_moveProbe m9 := by rw [← e16, ← e9]; rfl
  have d18 : S_X4_tick ρ π μ = if r16 1 = 1 then S_X0_lookForCrack r16 (r16 15) else r16 := by
    rw [← e16]
    rfl
  have d3 : m3 = if r1 1 = 1 then S_X4_steer (va_up r1 18 (r1 18 + 1)) π else r1 := by
    rw [← e3, ← e1]
    rfl
  have f1 : r1 1 = ρ 1 := by rw [d1]; rfl
  by_cases hp : ρ 1 = 1
  · rw [f1, if_pos hp] at d3
    obtain ⟨r4, e4⟩ : ∃ x, va_up r1 18 (r1 18 + 1) = x := ⟨_, rfl⟩
    rw [e4] at d3
    have f18 : r1 18 = ρ 18 := by rw [d1]; rfl
    have W4 : WT 1 1 r4 := by
      rw [← e4, f18, d1]
      refine ⟨BD_up B0 (by rw [e18]; show 0 ≤ _; omega) (by rw [e18]; show _ ≤ 10000; omega), ?_, ?_, q3, q4, ?_, q6⟩
      · show (ρ 18 + 1).toInt ≤ (ρ 0 + 1).toInt
        omega
      · show (ρ 19).toInt ≤ 999 * ((ρ 18 + 1).toInt - 1)
        omega
      · show ρ 23 = -100009 ∨ (1 ≤ (ρ 23).toInt ∧ (ρ 23).toInt ≤ (ρ 18 + 1).toInt - 1)
        exact q5.imp id (fun z => ⟨z.1, by omega⟩)
    have g0 : r4 0 = ρ 0 + 1 := by rw [← e4, d1]; rfl
    have g1 : r4 1 = 1 := by rw [← e4, d1]; exact hp
    have g18 : r4 18 = ρ 18 + 1 := by rw [← e4, f18]; rfl
    have W3 : WT 1 1 m3 := by rw [d3]; exact WT_steer W4
    have W7 : WT 1 1 r7 := by rw [d7]; exact WT_drum W3
    have g7 : ∀ k, k = 0 ∨ k = 1 ∨ k = 18 → r7 k = r4 k := fun k hk => by
      have n : k ≠ 2 ∧ k ≠ 13 ∧ k ≠ 7 := by omega
      rw [d7, drum_fr n.1, d3, steer_fr n.2.1 n.2.2]
    obtain ⟨r12, e12⟩ : ∃ x, S_X0_roast r7 (r7 2) = x := ⟨_, rfl⟩
    obtain ⟨r13, e13⟩ : ∃ x, S_X0_pop r12 (r12 14) = x := ⟨_, rfl⟩
    have d9 : m9 = va_up r13 19 (r13 19 + S_X6_valueBelow μ 6 (r13 16)) := by
      rw [← e9, ← e13, ← e12, ← e7]
      unfold T_X4_tick_m9
      rw [e7, if_pos (by rw [g7 1 (by decide), g1])]
    have W12 : WT 1 1 r12 := by rw [← e12]; exact WT_roast W7
    have W13 : WT 1 1 r13 := by rw [← e13]; exact WT_pop W12
    have W9 : WT 0 1 m9 := by rw [d9]; exact WT_loss W13 hμ
    have g9 : ∀ k, k = 0 ∨ k = 1 ∨ k = 18 → m9 k = r4 k := fun k hk => by
      have n : k ≠ 19 ∧ k < 20 ∧ k ≠ 16 ∧ k ≠ 25 := by omega
      rw [d9, va_up_ne _ _ n.1, ← e13, pop_fr n.2.1, ← e12, roast_fr n.2.2.1 n.2.2.2, g7 k hk]
    have W16 : WT 0 1 r16 := by rw [d16]; exact WT_probe W9
    have g16 : ∀ k, k = 0 ∨ k = 1 ∨ k = 18 → r16 k = r4 k := fun k hk => by rw [d16, probe_fr (by omega), g9 k hk]
    rw [d18, if_pos (by rw [g16 1 (by decide), g1])]
    refine ⟨WT_detect W16 ?_, ?_, ?_⟩
    · rw [g16 18 (by decide), g18, e18]
      omega
    · rw [detect_fr (by decide) (by decide), g16 0 (by decide), g0]
    · rw [detect_fr (by decide) (by decide), g16 1 (by decide), g1, hp]
  · rw [f1, if_neg hp] at d3
    have W3 : WT 0 0 m3 := by
      rw [d3, d1]
      refine ⟨B0, ?_, q2, q3, q4, q5, q6⟩
      show (ρ 18).toInt ≤ (ρ 0 + 1).toInt
      omega
    have g3 : m3 0 = ρ 0 + 1 ∧ m3 1 = ρ 1 := by rw [d3, d1]; exact ⟨rfl, rfl⟩
    have W7 : WT 0 0 r7 := by rw [d7]; exact WT_drum W3
    have g7 : r7 0 = ρ 0 + 1 ∧ r7 1 = ρ 1 := by rw [d7, drum_fr (by decide), drum_fr (by decide)]; exact g3
    have d9 : m9 = if r7 1 = 2 then S_X0_cool r7 (r7 3) (r7 8) else r7 := by
      rw [← e9]
      unfold T_X4_tick_m9
      rw [e7, if_neg (by rw [g7.2]; exact hp)]
    have W9 : WT 0 0 m9 ∧ m9 0 = ρ 0 + 1 ∧ m9 1 = ρ 1 := by
      rw [d9]
      by_cases c : r7 1 = 2
      · rw [if_pos c]
        exact ⟨WT_cool W7 c, by rw [cool_fr (by decide)]; exact g7.1, by rw [cool_fr (by decide)]; exact g7.2⟩
      · rw [if_neg c]
        exact ⟨W7, g7⟩
    have g16 : r16 0 = ρ 0 + 1 ∧ r16 1 = ρ 1 := by rw [d16, probe_fr (by decide), probe_fr (by decide)]; exact W9.2
    rw [d18, if_neg (by rw [g16.2]; exact hp)]
    exact ⟨by rw [d16]; exact WT_probe W9.1, g16⟩
/-- the ticks of a run, row by row -/
def LR (fu : Nat) (ti k : Int32) (ρ π μ : Nat → Int32) : Nat → Int32 := match fu with
  | 0 => ρ
  | fu + 1 => if ti ≤ k then ρ else LR fu ti (k + 1) (S_X4_tick ρ π μ) π μ
theorem run_row {h : Hp} {ti : Int32} : ∀ (fu : Nat) (k : Int32) (hh : Hp), (ti.toInt - k.toInt).toNat < fu → L_X9_run_45 fu h ti k hh = (LR fu ti k (hh 2) (hh 3) (hh 4) 4, va_up hh 2 (LR fu ti k (hh 2) (hh 3) (hh 4))) := by
  intro fu
  induction fu with
  | zero => intro _ _ h; exact absurd h (Nat.not_lt_zero _)
  | succ fu ih =>
    intro k hh hm
    unfold L_X9_run_45 LR
    by_cases c : ti ≤ k
    · rw [if_pos c, if_pos c, va_up_id]
    · rw [if_neg c, if_neg c]
      dsimp only
      rw [ih _ _ (ms_up c hm), va_up_self, va_up_ne _ _ (show 3 ≠ 2 by decide), va_up_ne _ _ (show 4 ≠ 2 by decide), va_up_up]
theorem LR_bd {ti : Int32} {T : Nat} {π μ : Nat → Int32} (eT : ti.toInt = T) (hT : T ≤ 1000) (hμ : VB 6 999 μ) : ∀ (fu : Nat) (k : Int32) (K : Nat) (ρ : Nat → Int32), k.toInt = K → K ≤ T → WT 0 0 ρ → (ρ 0).toInt + ((T - K : Nat) : Int) ≤ 10000 → WT 0 0 (LR fu ti k ρ π μ) ∧ LR fu ti k ρ π μ 1 = ρ 1 := by
  intro fu
  induction fu with
  | zero => intro _ _ _ _ _ h _; exact ⟨h, rfl⟩
  | succ fu ih =>
    intro k K ρ hk hK hW ht
    unfold LR
    by_cases c : ti ≤ k
    · rw [if_pos c]; exact ⟨hW, rfl⟩
    · rw [if_neg c]
      have c2 := nle c
      rw [eT, hk] at c2
      have b0 : 0 ≤ (ρ 0).toInt ∧ (ρ 0).toInt ≤ 10000 := hW.1 0 (by decide)
      obtain ⟨w1, w2, w3⟩ := WT_tick (π := π) hW (by omega) hμ
      have e : (ρ 0 + 1).toInt = (ρ 0).toInt + 1 := ta (b := 1) (by show -2147483648 ≤ (ρ 0).toInt + 1; omega) (by show (ρ 0).toInt + 1 < 2147483648; omega)
      obtain ⟨a, b⟩ := ih (k + 1) (K + 1) (S_X4_tick ρ π μ) (k_up hk (by omega)) (by omega) w1 (by rw [w2, e]; omega)
      exact ⟨a, by rw [b, w3]⟩
/-! THE LOG: numbers follow each other -/
def LG (ν : Nat → Int32) : Prop := (0 ≤ (ν 1).toInt ∧ (ν 1).toInt ≤ 8) ∧ ∀ j : Nat, (j : Int) < (ν 1).toInt → ν (2 + 6 * j) = ν 0 - Int32.ofNat j
theorem i32_step (a b : Int32) : a + 1 - (b + 1) = a - b := by
  rw [Int32.sub_eq_add_neg, Int32.sub_eq_add_neg, Int32.neg_add, Int32.add_assoc a 1, Int32.sub_eq_add_neg, Int32.add_comm (-b) (-1), ← Int32.add_assoc 1, Int32.add_right_neg, Int32.zero_add]
theorem ofN_s (j : Nat) : Int32.ofNat (j + 1) = Int32.ofNat j + 1 := by
  rw [Int32.ofNat_add]
  rfl
theorem LG_enter {ν ρ2 : Nat → Int32} (h : LG ν) : LG (S_X2_enter ν ρ2) := by
  have q : ENT (S_X2_enter ν ρ2) ν ρ2 47 := L_enter_pt 43 (48 - 1) 47 ν rfl (by decide) (by decide) (by decide)
  generalize S_X2_enter ν ρ2 = Y at q ⊢
  obtain ⟨y0, y1, y2, -, -, -, -, -, y8, -⟩ := q
  obtain ⟨l1, l2⟩ := h
  have e : (ν 1 + 1).toInt = (ν 1).toInt + 1 := ta (b := 1) (by show -2147483648 ≤ (ν 1).toInt + 1; omega) (by show (ν 1).toInt + 1 < 2147483648; omega)
  have m := min_t (ν 1 + 1) 8
  rw [← y1, e] at m
  have z8 : (8 : Int32).toInt = 8 := rfl
  rw [z8] at m
  have bd : (0 ≤ (Y 1).toInt ∧ (Y 1).toInt ≤ 8) ∧ (Y 1).toInt ≤ (ν 1).toInt + 1 := by
    split at m <;> omega
  refine ⟨bd.1, fun j hj => ?_⟩
  cases j with
  | zero =>
    show Y 2 = Y 0 - 0
    rw [y2, y0, Int32.sub_zero]
  | succ j =>
    rw [y8 (2 + 6 * (j + 1)) (by omega) (by omega), show 2 + 6 * (j + 1) - 6 = 2 + 6 * j by omega, l2 j (by omega), y0, ofN_s, i32_step]
theorem S_copy_1 {a b : Nat → Int32} {o n k : Nat} : S_copy a b o 1 n k = if o ≤ k ∧ k < o + n then a k else b k := by
  unfold S_copy
  by_cases c : o ≤ k ∧ k < o + n
  · rw [if_pos c, if_pos ⟨c.1, Nat.mod_one _, by rw [Nat.div_one]; omega⟩]
  · rw [if_neg c, if_neg (fun q => c ⟨q.1, by have := q.2.2; rw [Nat.div_one] at this; omega⟩)]
theorem roaster_copy {a b : Nat → Int32} {k : Nat} (h : k < 32) (h1 : k ≠ 21) (h2 : k ≠ 22) : S_X4_copyFrom a b k = b k := by
  have hk : k = 0 ∨ k = 1 ∨ k = 2 ∨ k = 3 ∨ k = 4 ∨ k = 5 ∨ k = 6 ∨ k = 7 ∨ k = 8 ∨ k = 9 ∨ k = 10 ∨ k = 11 ∨ k = 12 ∨ k = 13 ∨ k = 14 ∨ k = 15 ∨ k = 16 ∨ k = 17 ∨ k = 18 ∨ k = 19 ∨ k = 20 ∨ k = 23 ∨ k = 24 ∨ k = 25 ∨ (26 ≤ k ∧ k < 32) := by omega
  unfold S_X4_copyFrom S_X0_copyFrom S_X5_copyFrom
  simp only [va_up, S_copy_1]
  rcases hk with rfl | rfl | rfl | rfl | rfl | rfl | rfl | rfl | rfl | rfl | rfl | rfl | rfl | rfl | rfl | rfl | rfl | rfl | rfl | rfl | rfl | rfl | rfl | rfl | hk
  all_goals first | rfl | skip
  repeat rw [if_neg (by omega)]
  rw [if_pos (by omega)]
theorem log_copy {a b : Nat → Int32} {k : Nat} (hk : k < 50) : S_X2_copyFrom a b k = b k := by
  unfold S_X2_copyFrom
  simp only [va_up, S_copy_1]
  by_cases c : k = 0
  · repeat' split
    all_goals first | (subst c; rfl) | omega
  · by_cases d : k = 1
    · repeat' split
      all_goals first | (subst d; rfl) | omega
    · repeat' split
      all_goals first | rfl | omega
/-- a whole state is good -/
def W4 (ρ π μ ν : Nat → Int32) : Prop := WT 0 0 ρ ∧ TB 8 3000 π ∧ TB 6 999 μ ∧ LG ν
/-- two states are the same, as far as their places are used -/
def AG4 (a b c d ρ π μ ν : Nat → Int32) : Prop := (∀ k, k < 32 → k ≠ 21 → k ≠ 22 → a k = ρ k) ∧ (∀ k, k ≤ 16 → b k = π k) ∧ (∀ k, k ≤ 12 → c k = μ k) ∧ ∀ k, k < 50 → d k = ν k
theorem W4_congr {a b c d ρ π μ ν : Nat → Int32} (h : AG4 a b c d ρ π μ ν) (hw : W4 ρ π μ ν) : W4 a b c d := by
  obtain ⟨h1, h2, h3, h4⟩ := h
  obtain ⟨⟨w1, w2⟩, w3, w4, w5⟩ := hw
  refine ⟨⟨fun k hk => ?_, ?_⟩, TB_congr (fun k hk => h2 k (by omega)) w3, TB_congr (fun k hk => h3 k (by omega)) w4, ?_⟩
  · by_cases c1 : k = 21
    · rw [c1]; exact i32 _
    · by_cases c2 : k = 22
      · rw [c2]; exact i32 _
      · rw [h1 k hk c1 c2]; exact w1 k hk
  · unfold WQ
    rw [h1 0 (by decide) (by decide) (by decide), h1 1 (by decide) (by decide) (by decide), h1 16 (by decide) (by decide) (by decide), h1 18 (by decide) (by decide) (by decide), h1 19 (by decide) (by decide) (by decide), h1 20 (by decide) (by decide) (by decide), h1 23 (by decide) (by decide) (by decide), h1 24 (by decide) (by decide) (by decide), h1 25 (by decide) (by decide) (by decide), h1 26 (by decide) (by decide) (by decide), h1 27 (by decide) (by decide) (by decide), h1 28 (by decide) (by decide) (by decide), h1 29 (by decide) (by decide) (by decide), h1 30 (by decide) (by decide) (by decide), h1 31 (by decide) (by decide) (by decide)]
    exact w2
  · unfold LG
    rw [h4 0 (by decide), h4 1 (by decide)]
    refine ⟨w5.1, fun j hj => ?_⟩
    have := w5.1.2
    rw [h4 _ (by omega)]
    exact w5.2 j hj
theorem copy4 {a1 a2 a3 a4 ρ π μ ν : Nat → Int32} (h : W4 ρ π μ ν) : AG4 (S_X7_copyFrom a1 a2 a3 a4 ρ π μ ν 8 6).1 (S_X7_copyFrom a1 a2 a3 a4 ρ π μ ν 8 6).2.1 (S_X7_copyFrom a1 a2 a3 a4 ρ π μ ν 8 6).2.2.1 (S_X7_copyFrom a1 a2 a3 a4 ρ π μ ν 8 6).2.2.2 ρ π μ ν := by
  show AG4 (S_X4_copyFrom a1 ρ) (S_X6_copyFrom a2 π 8) (S_X6_copyFrom a3 μ 6) (S_X2_copyFrom a4 ν) ρ π μ ν
  exact ⟨fun k h1 h2 h3 => roaster_copy h1 h2 h3, fun k hk => tab_copy (by decide) h.2.1.1.2 (by omega), fun k hk => tab_copy (by decide) h.2.2.1.1.2 (by omega), fun k hk => log_copy hk⟩
theorem AG4.trans {a b c d a' b' c' d' ρ π μ ν : Nat → Int32} (h : AG4 a b c d a' b' c' d') (h' : AG4 a' b' c' d' ρ π μ ν) : AG4 a b c d ρ π μ ν := ⟨fun k h1 h2 h3 => (h.1 k h1 h2 h3).trans (h'.1 k h1 h2 h3), fun k hk => (h.2.1 k hk).trans (h'.2.1 k hk), fun k hk => (h.2.2.1 k hk).trans (h'.2.2.1 k hk), fun k hk => (h.2.2.2 k hk).trans (h'.2.2.2 k hk)⟩
