/-! FORECASTS: when they refuse -/
theorem until_ne {ρ π μ θ : Nat → Int32} {te : Int32} : ∀ (fu : Nat) (k : Int32) (θ1 : Nat → Int32), 0 ≤ k.toInt → k.toInt ≤ 201 → ¬ (L_X9_ticksTo_41 fu ρ π μ θ te k θ1).1 = -100002 := by
  intro fu
  induction fu with
  | zero => intro _ _ _ _ h; exact absurd (show (0 : Int32) = -100002 from h) (by decide)
  | succ fu ih =>
    intro k θ1 h0 h1
    unfold L_X9_ticksTo_41
    have z2 : (200 : Int32).toInt = 200 := rfl
    have zm : (-100002 : Int32).toInt = -100002 := rfl
    by_cases c : 200 < k
    · rw [if_pos c]; exact fun h => absurd (show (-100009 : Int32) = -100002 from h) (by decide)
    · rw [if_neg c]
      have c2 := nlt c
      by_cases d : θ1 16 < te
      · rw [if_pos d]
        have e : (k + 1).toInt = k.toInt + 1 := ta (b := 1) (by show -2147483648 ≤ k.toInt + 1; omega) (by show k.toInt + 1 < 2147483648; omega)
        exact ih _ _ (by omega) (by omega)
      · rw [if_neg d]
        intro h
        have h : k = -100002 := h
        rw [h] at h0
        omega
theorem loss_ne {ρ π μ θ : Nat → Int32} {lo : Int32} : ∀ (fu : Nat) (k : Int32) (θ1 : Nat → Int32), 0 ≤ k.toInt → k.toInt ≤ 201 → ¬ (L_X9_ticksToLoss_40 fu ρ π μ θ lo k θ1).1 = -100002 := by
  intro fu
  induction fu with
  | zero => intro _ _ _ _ h; exact absurd (show (0 : Int32) = -100002 from h) (by decide)
  | succ fu ih =>
    intro k θ1 h0 h1
    unfold L_X9_ticksToLoss_40
    have z2 : (200 : Int32).toInt = 200 := rfl
    have zm : (-100002 : Int32).toInt = -100002 := rfl
    by_cases c : 200 < k
    · rw [if_pos c]; exact fun h => absurd (show (-100009 : Int32) = -100002 from h) (by decide)
    · rw [if_neg c]
      have c2 := nlt c
      by_cases d : θ1 19 < lo
      · rw [if_pos d]
        have e : (k + 1).toInt = k.toInt + 1 := ta (b := 1) (by show -2147483648 ≤ k.toInt + 1; omega) (by show k.toInt + 1 < 2147483648; omega)
        exact ih _ _ (by omega) (by omega)
      · rw [if_neg d]
        intro h
        have h : k = -100002 := h
        rw [h] at h0
        omega
theorem best_ne {ρ π μ θ : Nat → Int32} {ti : Int32} : ∀ (fu : Nat) (be sm k : Int32) (θ1 : Nat → Int32), 0 ≤ be.toInt → 0 ≤ k.toInt → k.toInt ≤ 101 → ¬ (L_X9_bestBias_49 fu ρ π μ θ ti be sm k θ1).1 = -100002 := by
  intro fu
  induction fu with
  | zero => intro _ _ _ _ _ _ _ h; exact absurd (show (0 : Int32) = -100002 from h) (by decide)
  | succ fu ih =>
    intro be sm k θ1 hb h0 h1
    unfold L_X9_bestBias_49
    have z2 : (100 : Int32).toInt = 100 := rfl
    have zm : (-100002 : Int32).toInt = -100002 := rfl
    by_cases c : 100 < k
    · rw [if_pos c]
      intro h
      have h : be = -100002 := h
      rw [h] at hb
      omega
    · rw [if_neg c]
      have c2 := nlt c
      dsimp only
      have e : (k + 1).toInt = k.toInt + 1 := ta (b := 1) (by show -2147483648 ≤ k.toInt + 1; omega) (by show k.toInt + 1 < 2147483648; omega)
      refine ih _ _ _ _ ?_ (by omega) (by omega)
      split
      · exact hb
      · exact h0
theorem fc_until {ρ π μ θ : Nat → Int32} : (S_X9_ticksTo ρ π μ θ 1500).1 = -100002 ↔ ¬ ρ 1 = 1 := by
  unfold S_X9_ticksTo
  rw [if_neg (by decide)]
  by_cases c : ρ 1 = 1
  · rw [if_pos c]
    exact ⟨fun h => absurd h (until_ne _ _ _ (by decide) (by decide)), fun h => absurd c h⟩
  · rw [if_neg c]
    exact ⟨fun _ => c, fun _ => rfl⟩
theorem fc_loss {ρ π μ θ : Nat → Int32} : (S_X9_ticksToLoss ρ π μ θ 50).1 = -100002 ↔ ¬ ρ 1 = 1 := by
  unfold S_X9_ticksToLoss
  rw [if_neg (by decide)]
  by_cases c : ρ 1 = 1
  · rw [if_pos c]
    exact ⟨fun h => absurd h (loss_ne _ _ _ (by decide) (by decide)), fun h => absurd c h⟩
  · rw [if_neg c]
    exact ⟨fun _ => c, fun _ => rfl⟩
theorem fc_best {ρ π μ θ : Nat → Int32} : (S_X9_bestBias ρ π μ θ 9).1 = -100002 ↔ (¬ ρ 1 = 1 ∨ π 0 = 0) := by
  unfold S_X9_bestBias
  rw [if_neg (by decide)]
  by_cases c : ρ 1 = 1
  · rw [if_pos c]
    by_cases d : π 0 = 0
    · rw [if_pos d]
      exact ⟨fun _ => Or.inr d, fun _ => rfl⟩
    · rw [if_neg d]
      exact ⟨fun h => absurd h (best_ne _ _ _ _ _ (by decide) (by decide) (by decide)), fun h => absurd h (fun q => q.elim (fun z => z c) d)⟩
  · rw [if_neg c]
    exact ⟨fun _ => Or.inl c, fun _ => rfl⟩
/-! LOAD of an empty text -/
theorem load_0 {h : Hp} (ht : h 7 0 = 0) : ∃ (a b p t : Nat → Int32), S_X9_load h = (0, va_up (va_up (S_X1_remember (va_up (va_up h 8 a) 9 b)) 3 p) 7 t) ∧ p 0 = 0 ∧ t 0 = 0 := by
  have as : S_X8_afterSpaces (h 7) 0 = 0 := by
    unfold S_X8_afterSpaces L_X8_afterSpaces_4
    have e : S_X8_character (h 7) 0 = 0 := by
      unfold S_X8_character
      rw [ht, if_pos (by decide)]
    rw [if_neg (by decide), e, if_neg (by decide)]
  have ep : S_X3_errorPosition (h 8) (h 9) (h 7) = (-1, va_up (h 8) 0 (-1), va_up (h 9) 0 0) := by
    unfold S_X3_errorPosition
    rw [as]
    unfold L_X3_errorPosition_24
    rw [if_neg (by decide), if_pos (by rw [ht]; decide)]
    rfl
  unfold S_X9_load
  rw [ep]
  dsimp only
  rw [if_pos rfl]
  obtain ⟨R, eR⟩ : ∃ R, S_X1_remember (va_up (va_up h 8 (va_up (h 8) 0 (-1))) 9 (va_up (h 9) 0 0)) = R := ⟨_, rfl⟩
  rw [eR]
  have r9 : R 9 0 = 0 := by rw [← eR, rem_low _ (by decide), va_up_self, va_up_self]
  have pc : S_X6_copyFrom (R 3) (R 9) 8 0 = 0 := by
    unfold S_X6_copyFrom
    (try dsimp only)
    rw [va_up_self, r9]
    decide
  exact ⟨va_up (h 8) 0 (-1), va_up (h 9) 0 0, S_X6_copyFrom (R 3) (R 9) 8, va_up (R 7) 0 0, by rw [eR, pc], pc, va_up_self _ _ _⟩
/-! WHAT HOLDS BETWEEN the law's steps -/
def INV (N : Nat) (h : Hp) : Prop := WH h ∧ HI N h ∧ h 7 0 = 0
theorem INV_step {N : Nat} {h : Hp} {ρ π μ ν : Nat → Int32} (hN : N ≤ 100000) (hI : INV N h) (hw : W4 ρ π μ ν) : INV (N + 1) (W5 (S_X1_remember h) ρ π μ ν) ∧ TOP (W5 (S_X1_remember h) ρ π μ ν) (h 2) (h 3) (h 4) (h 5) := by
  obtain ⟨a, b⟩ := rem_ok hN hI.1 hI.2.1
  refine ⟨⟨hw, HI_congr (fun g hg => W5_ne (by omega)) a, ?_⟩, TOP_congr (fun g hg => W5_ne (by omega)) b⟩
  rw [W5_ne (by decide), rem_low _ (by decide)]
  exact hI.2.2
theorem INV_trial {N : Nat} {h : Hp} {θ : Nat → Int32} (hI : INV N h) : INV N (va_up h 6 θ) ∧ SM (va_up h 6 θ) h := ⟨⟨hI.1, HI_congr (fun g hg => va_up_ne _ _ (by omega)) hI.2.1, hI.2.2⟩, rfl, rfl, rfl, rfl⟩
theorem INV_undo {N : Nat} {h : Hp} {ρ π μ ν : Nat → Int32} (hH : HI N h) (h7 : h 7 0 = 0) (hT : TOP h ρ π μ ν) (hw : W4 ρ π μ ν) : 0 ≤ (S_X9_undo h).1.toInt ∧ AG4 ((S_X9_undo h).2 2) ((S_X9_undo h).2 3) ((S_X9_undo h).2 4) ((S_X9_undo h).2 5) ρ π μ ν ∧ INV N (W5 (S_X9_undo h).2 ρ π μ ν) := by
  obtain ⟨a, b, c, d⟩ := undo_ok hH hT hw
  refine ⟨a, b, hw, HI_congr (fun g hg => W5_ne (by omega)) c, ?_⟩
  rw [W5_ne (by decide), d 7 (by decide)]
  exact h7
theorem SM_W5 {H h : Hp} : SM (W5 H (h 2) (h 3) (h 4) (h 5)) h := ⟨rfl, rfl, rfl, rfl⟩
/-! THE WORLD sees no more of the rows than their used places -/
theorem at_arr {D : va_G} {cl : List vw_C} {q n : Nat} {cI : ClassId} {f g : Nat → Int32} {H : Heap} (hfg : ∀ k, k < n → f k = g k) (h : va_at D cl (q, .inl (cI, n, .inl f)) H) : va_at D cl (q, .inl (cI, n, .inl g)) H := by
  show H[q]? = some (arrV cI n (fun j => .int (g j)))
  have h1 : H[q]? = some (arrV cI n (fun j => .int (f j))) := h
  rw [h1]
  unfold arrV
  congr 3
  funext j
  exact congrArg Value.int (hfg j.val j.isLt)
theorem ae_row {G : Geo} {h h' : Hp} {g j : Nat} (e : h' g = h g) : ar_e G h' g j = ar_e G h g j := ar_cong (fun sl _ => by rw [e])
theorem wl_agree {G : Geo} (hK : KT G) {h h' : Hp} {H : Heap} (ha : AG4 (h 2) (h 3) (h 4) (h 5) (h' 2) (h' 3) (h' 4) (h' 5)) (ho : ∀ g, g < 2 ∨ 5 < g → h' g = h g) (hP : va_P (gD G) vwCl (wl G h) H) : va_P (gD G) vwCl (wl G h') H := by
  have hT2 : gT G 2 = 2 := hK 2 (by decide)
  have hT3 : gT G 3 = 3 := hK 3 (by decide)
  have hT4 : gT G 4 = 3 := hK 4 (by decide)
  have hT5 : gT G 5 = 5 := hK 5 (by decide)
  obtain ⟨a2, a3, a4, a5⟩ := ha
  have e2 : ∀ k, k < 32 → k ≠ 21 → k ≠ 22 → h' 2 k = h 2 k := fun k x y z => (a2 k x y z).symm
  have e3 : ∀ k, k ≤ 16 → h' 3 k = h 3 k := fun k x => (a3 k x).symm
  have e4 : ∀ k, k ≤ 12 → h' 4 k = h 4 k := fun k x => (a4 k x).symm
  have e5 : ∀ k, k < 50 → h' 5 k = h 5 k := fun k x => (a5 k x).symm
  rw [va_P.mem] at hP ⊢
  intro q hq
  obtain ⟨c, hc, rfl⟩ := List.mem_map.mp hq
  have h1 := hP _ (List.mem_map.mpr ⟨c, hc, rfl⟩)
  have hn := ar_mem' hc
  have hj := ar_j hn
  obtain ⟨g, j⟩ := c
  dsimp only at h1 hn hj ⊢
  by_cases hg : g < 2 ∨ 5 < g
  · rw [ae_row (ho g hg)]
    exact h1
  · rcases (show g = 2 ∨ g = 3 ∨ g = 4 ∨ g = 5 by omega) with rfl | rfl | rfl | rfl
    · rcases (show j = 0 ∨ j = 1 ∨ j = 2 ∨ j = 3 by omega) with rfl | rfl | rfl | rfl
      · have e : ar_e G h' 2 0 = ar_e G h 2 0 := by
          unfold ar_e
          rw [ac_2_0 hT2]
          simp only [ar_x, List.map, ar_f]
          rw [e2 0 (by decide) (by decide) (by decide), e2 1 (by decide) (by decide) (by decide), e2 2 (by decide) (by decide) (by decide), e2 4 (by decide) (by decide) (by decide), e2 7 (by decide) (by decide) (by decide), e2 13 (by decide) (by decide) (by decide)]
        rw [e]
        exact h1
      · have e : ar_e G h' 2 1 = ar_e G h 2 1 := by
          unfold ar_e
          rw [ac_2_1 hT2]
          simp only [ar_x, List.map, ar_f]
          rw [e2 3 (by decide) (by decide) (by decide), e2 9 (by decide) (by decide) (by decide), e2 10 (by decide) (by decide) (by decide), e2 11 (by decide) (by decide) (by decide), e2 12 (by decide) (by decide) (by decide), e2 5 (by decide) (by decide) (by decide), e2 6 (by decide) (by decide) (by decide), e2 14 (by decide) (by decide) (by decide), e2 15 (by decide) (by decide) (by decide), e2 8 (by decide) (by decide) (by decide)]
        rw [e]
        exact h1
      · have e : ar_e G h' 2 2 = ar_e G h 2 2 := by
          unfold ar_e
          rw [ac_2_2 hT2]
          simp only [ar_x, List.map, ar_f]
          rw [e2 16 (by decide) (by decide) (by decide), e2 17 (by decide) (by decide) (by decide), e2 18 (by decide) (by decide) (by decide), e2 19 (by decide) (by decide) (by decide), e2 20 (by decide) (by decide) (by decide), e2 23 (by decide) (by decide) (by decide), e2 24 (by decide) (by decide) (by decide), e2 25 (by decide) (by decide) (by decide)]
        rw [e]
        exact h1
      · have hn : ar_n (gT G 2) 2 = 6 := by rw [hT2]; rfl
        unfold ar_e at h1 ⊢
        rw [ac_2_3 hT2] at h1 ⊢
        exact at_arr (n := ar_n (gT G 2) 2) (f := fun k => h 2 (26 + 1 * k)) (g := fun k => h' 2 (26 + 1 * k)) (fun k hk => (e2 (26 + 1 * k) (by rw [hn] at hk; omega) (by omega) (by omega)).symm) h1
    · rcases (show j = 0 ∨ j = 1 ∨ j = 2 ∨ j = 3 by omega) with rfl | rfl | rfl | rfl
      · have e : ar_e G h' 3 0 = ar_e G h 3 0 := by
          unfold ar_e
          rw [ac_3_0 hT3]
          simp only [ar_x, List.map, ar_f]
          rw [e3 0 (by decide)]
        rw [e]
        exact h1
      · have hn : ar_n (gT G 3) 3 = 8 := by rw [hT3]; rfl
        unfold ar_e at h1 ⊢
        rw [ac_3_1 hT3] at h1 ⊢
        exact at_arr (n := ar_n (gT G 3) 3) (f := fun k => h 3 (1 + 2 * k)) (g := fun k => h' 3 (1 + 2 * k)) (fun k hk => (e3 (1 + 2 * k) (by rw [hn] at hk; omega) ).symm) h1
      · have hn : ar_n (gT G 3) 3 = 8 := by rw [hT3]; rfl
        unfold ar_e at h1 ⊢
        rw [ac_3_2 hT3] at h1 ⊢
        exact at_arr (n := ar_n (gT G 3) 3) (f := fun k => h 3 (2 + 2 * k)) (g := fun k => h' 3 (2 + 2 * k)) (fun k hk => (e3 (2 + 2 * k) (by rw [hn] at hk; omega) ).symm) h1
      · rw [hT3] at hn
        exact absurd rfl hn
    · rcases (show j = 0 ∨ j = 1 ∨ j = 2 ∨ j = 3 by omega) with rfl | rfl | rfl | rfl
      · have e : ar_e G h' 4 0 = ar_e G h 4 0 := by
          unfold ar_e
          rw [ac_3_0 hT4]
          simp only [ar_x, List.map, ar_f]
          rw [e4 0 (by decide)]
        rw [e]
        exact h1
      · have hn : ar_n (gT G 4) 4 = 6 := by rw [hT4]; rfl
        unfold ar_e at h1 ⊢
        rw [ac_3_1 hT4] at h1 ⊢
        exact at_arr (n := ar_n (gT G 4) 4) (f := fun k => h 4 (1 + 2 * k)) (g := fun k => h' 4 (1 + 2 * k)) (fun k hk => (e4 (1 + 2 * k) (by rw [hn] at hk; omega) ).symm) h1
      · have hn : ar_n (gT G 4) 4 = 6 := by rw [hT4]; rfl
        unfold ar_e at h1 ⊢
        rw [ac_3_2 hT4] at h1 ⊢
        exact at_arr (n := ar_n (gT G 4) 4) (f := fun k => h 4 (2 + 2 * k)) (g := fun k => h' 4 (2 + 2 * k)) (fun k hk => (e4 (2 + 2 * k) (by rw [hn] at hk; omega) ).symm) h1
      · rw [hT4] at hn
        exact absurd rfl hn
    · rcases (show j = 0 ∨ j = 1 ∨ j = 2 ∨ j = 3 by omega) with rfl | rfl | rfl | rfl
      · have e : ar_e G h' 5 0 = ar_e G h 5 0 := by
          unfold ar_e
          rw [ac_5_0 hT5]
          simp only [ar_x, List.map, ar_f]
          rw [e5 0 (by decide), e5 1 (by decide)]
        rw [e]
        exact h1
      · have hn : ar_n (gT G 5) 5 = 48 := by rw [hT5]; rfl
        unfold ar_e at h1 ⊢
        rw [ac_5_1 hT5] at h1 ⊢
        exact at_arr (n := ar_n (gT G 5) 5) (f := fun k => h 5 (2 + 1 * k)) (g := fun k => h' 5 (2 + 1 * k)) (fun k hk => (e5 (2 + 1 * k) (by rw [hn] at hk; omega) ).symm) h1
      · rw [hT5] at hn
        exact absurd rfl hn
      · rw [hT5] at hn
        exact absurd rfl hn
/-- low() in its range -/
theorem and_nn (a : Int32) : 0 ≤ (a &&& 2147483647).toInt := by
  have h : (a &&& 2147483647).toBitVec.msb = false := by
    rw [Int32.toBitVec_and, BitVec.msb_and]
    have : (2147483647 : Int32).toBitVec.msb = false := by decide
    rw [this, Bool.and_false]
  rw [BitVec.msb_eq_toInt] at h
  have h2 := of_decide_eq_false h
  have h3 : (a &&& 2147483647).toBitVec.toInt = (a &&& 2147483647).toInt := rfl
  rw [h3] at h2
  omega
theorem low_bd {a b : Int32} (hb : 0 < b.toInt) : 0 ≤ (S_L_low a b).toInt ∧ (S_L_low a b).toInt < b.toInt := by
  unfold S_L_low
  have n := and_nn a
  generalize a &&& 2147483647 = x at n ⊢
  rw [dr32 hb]
  obtain ⟨h1, h2, h3, h4, h5⟩ := dv_t x.toInt hb
  exact ⟨h4 n, h2⟩
theorem inR_ok {a b d : Int32} (h1 : b.toInt ≤ a.toInt) (h2 : a.toInt ≤ d.toInt) : ¬ S_X9_inRange a b d = 0 := by
  unfold S_X9_inRange
  rw [if_neg (fun c => by have := Int32.lt_iff_toInt_lt.mp c; omega), if_neg (fun c => by have := Int32.lt_iff_toInt_lt.mp c; omega)]
  decide
/-- the object as it is made -/
theorem hK4_bd : BD (hK4 2) := by unfold BD; decide +kernel
theorem hK4_wq : WQ 0 0 (hK4 2) := by unfold WQ RQ; decide +kernel
theorem hK4_t8 : TB 8 3000 (hK4 3) := by unfold TB VB; decide +kernel
theorem hK4_t6 : TB 6 999 (hK4 4) := by unfold TB VB; decide +kernel
theorem hK4_c : (hK4 5 1).toInt = 0 ∧ (hK4 10 1).toInt = 0 ∧ (hK4 10 0).toInt = 0 ∧ hK4 7 0 = 0 ∧ hK4 2 7 = 0 ∧ (hK4 2 0).toInt = 0 ∧ hK4 2 1 = 0 := by decide +kernel
theorem INV_0 : INV 0 hK4 := by
  obtain ⟨c1, c2, c3, c4, c5, c6, c7⟩ := hK4_c
  exact ⟨⟨⟨hK4_bd, hK4_wq⟩, hK4_t8, hK4_t6, ⟨by omega, fun j hj => absurd hj (by omega)⟩⟩, ⟨0, 0, c2, by decide, c3, by decide, fun i hi => absurd hi (Nat.not_lt_zero _)⟩, c4⟩
