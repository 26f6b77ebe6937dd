/-! WHAT THE LAW LOOKS AT: the digest depends on the four rows alone; all numbers are right -/
theorem count_sm {h h' : Hp} (hs : SM h' h) {k : Int32} (hk : ¬ 11 ≤ k) : S_X9_count h' k = S_X9_count h k := by
  have n11 : ¬ k = 11 := fun e => hk (by rw [e]; decide)
  have n12 : ¬ k = 12 := fun e => hk (by rw [e]; decide)
  unfold S_X9_count
  simp only [if_neg n11, if_neg n12, hs.1, hs.2.1, hs.2.2.1, hs.2.2.2]
theorem batch_sm {h h' : Hp} (hs : SM h' h) (k : Int32) : S_X9_batch h' k = S_X9_batch h k := by
  unfold S_X9_batch
  rw [hs.1]
theorem logged_sm {h h' : Hp} (hs : SM h' h) (k w : Int32) : S_X9_logged h' k w = S_X9_logged h k w := by
  unfold S_X9_logged
  rw [hs.2.2.2]
theorem target_sm {h h' : Hp} (hs : SM h' h) (k : Int32) : S_X9_target h' k = S_X9_target h k := by
  unfold S_X9_target
  rw [hs.2.1]
theorem rate_sm {h h' : Hp} (hs : SM h' h) (k : Int32) : S_X9_rate h' k = S_X9_rate h k := by
  unfold S_X9_rate
  rw [hs.2.2.1]
theorem dg60 {h h' : Hp} (hs : SM h' h) : ∀ (fu : Nat) (dg : Int64) (k : Int32), L_L_digest_60 fu h' dg k = L_L_digest_60 fu h dg k := by
  intro fu
  induction fu with
  | zero => intro _ _; rfl
  | succ fu ih =>
    intro dg k
    unfold L_L_digest_60
    rw [logged_sm hs, logged_sm hs, target_sm hs, rate_sm hs, ih]
theorem dg33 {h h' : Hp} (hs : SM h' h) : ∀ (fu : Nat) (dg : Int64) (k : Int32), L_L_digest_33 fu h' dg k = L_L_digest_33 fu h dg k := by
  intro fu
  induction fu with
  | zero => intro _ _; rfl
  | succ fu ih =>
    intro dg k
    unfold L_L_digest_33
    rw [batch_sm hs, dg60 hs, ih]
theorem dg6 {h h' : Hp} (hs : SM h' h) : ∀ (fu : Nat) (dg : Int64) (k : Int32), L_L_digest_6 fu h' dg k = L_L_digest_6 fu h dg k := by
  intro fu
  induction fu with
  | zero => intro _ _; rfl
  | succ fu ih =>
    intro dg k
    unfold L_L_digest_6
    by_cases c : 11 ≤ k
    · rw [if_pos c, if_pos c, dg33 hs]
    · rw [if_neg c, if_neg c, count_sm hs c, ih]
theorem digest_sm {h h' : Hp} (hs : SM h' h) : S_L_digest h' = S_L_digest h := dg6 hs _ _ _
theorem count_1 (h : Hp) : S_X9_count h 1 = h 2 1 := by
  unfold S_X9_count
  rw [if_neg (by decide), if_pos rfl]
theorem count_5 (h : Hp) : S_X9_count h 5 = h 2 7 := by
  unfold S_X9_count
  rw [if_neg (by decide), if_neg (by decide), if_neg (by decide), if_neg (by decide), if_neg (by decide), if_pos rfl]
theorem count_6 (h : Hp) : S_X9_count h 6 = h 2 5 := by
  unfold S_X9_count
  rw [if_neg (by decide), if_neg (by decide), if_neg (by decide), if_neg (by decide), if_neg (by decide), if_neg (by decide), if_pos rfl]
theorem count_7 (h : Hp) : S_X9_count h 7 = h 2 13 := by
  unfold S_X9_count
  rw [if_neg (by decide), if_neg (by decide), if_neg (by decide), if_neg (by decide), if_neg (by decide), if_neg (by decide), if_neg (by decide), if_pos rfl]
theorem count_8 (h : Hp) : S_X9_count h 8 = h 3 0 := by
  unfold S_X9_count
  rw [if_neg (by decide), if_neg (by decide), if_neg (by decide), if_neg (by decide), if_neg (by decide), if_neg (by decide), if_neg (by decide), if_neg (by decide), if_pos rfl]
theorem count_10 (h : Hp) : S_X9_count h 10 = h 5 1 := by
  unfold S_X9_count
  rw [if_neg (by decide), if_neg (by decide), if_neg (by decide), if_neg (by decide), if_neg (by decide), if_neg (by decide), if_neg (by decide), if_neg (by decide), if_neg (by decide), if_neg (by decide), if_pos rfl]
theorem count_13 (h : Hp) : S_X9_count h 13 = -100001 := by
  unfold S_X9_count
  rw [if_neg (by decide), if_neg (by decide), if_neg (by decide), if_neg (by decide), if_neg (by decide), if_neg (by decide), if_neg (by decide), if_neg (by decide), if_neg (by decide), if_neg (by decide), if_neg (by decide), if_neg (by decide), if_neg (by decide)]
theorem batch_n {h : Hp} (hp : ¬ h 2 1 = 0) {k : Int32} (hk : ¬ S_X9_inRange k 0 9 = 0) : S_X9_batch h k = S_X0_number (h 2) k := by
  unfold S_X9_batch
  rw [if_neg hk, if_neg hp]
theorem num_3 (ρ : Nat → Int32) : S_X0_number ρ 3 = ρ 19 := by
  unfold S_X0_number
  rw [if_neg (by decide), if_neg (by decide), if_neg (by decide), if_pos rfl]
theorem num_4 (ρ : Nat → Int32) : S_X0_number ρ 4 = ρ 20 := by
  unfold S_X0_number
  rw [if_neg (by decide), if_neg (by decide), if_neg (by decide), if_neg (by decide), if_pos rfl]
theorem num_5 (ρ : Nat → Int32) : S_X0_number ρ 5 = S_at ρ 26 1 6 (S_J9_floorMod_7cf53 (ρ 18) 6) := by
  unfold S_X0_number
  rw [if_neg (by decide), if_neg (by decide), if_neg (by decide), if_neg (by decide), if_neg (by decide), if_pos rfl]
theorem num_6 (ρ : Nat → Int32) : S_X0_number ρ 6 = S_X0_window ρ := by
  unfold S_X0_number
  rw [if_neg (by decide), if_neg (by decide), if_neg (by decide), if_neg (by decide), if_neg (by decide), if_neg (by decide), if_pos rfl]
theorem num_7 (ρ : Nat → Int32) : S_X0_number ρ 7 = ρ 23 := by
  unfold S_X0_number
  rw [if_neg (by decide), if_neg (by decide), if_neg (by decide), if_neg (by decide), if_neg (by decide), if_neg (by decide), if_neg (by decide), if_pos rfl]
theorem num_8 (ρ : Nat → Int32) : S_X0_number ρ 8 = ρ 24 := by
  unfold S_X0_number
  rw [if_neg (by decide), if_neg (by decide), if_neg (by decide), if_neg (by decide), if_neg (by decide), if_neg (by decide), if_neg (by decide), if_neg (by decide), if_pos rfl]
theorem num_9 (ρ : Nat → Int32) : S_X0_number ρ 9 = ρ 25 := by
  unfold S_X0_number
  rw [if_neg (by decide), if_neg (by decide), if_neg (by decide), if_neg (by decide), if_neg (by decide), if_neg (by decide), if_neg (by decide), if_neg (by decide), if_neg (by decide), if_pos rfl]
/-- the window, and the latest pops in it -/
theorem win_t {ρ : Nat → Int32} (h : BD ρ) : (S_X0_window ρ).toInt = (ρ 26).toInt + (ρ 27).toInt + (ρ 28).toInt + (ρ 29).toInt + (ρ 30).toInt + (ρ 31).toInt := by
  have r26 : 0 ≤ (ρ 26).toInt ∧ (ρ 26).toInt ≤ 1000 := h 26 (by decide)
  have r27 : 0 ≤ (ρ 27).toInt ∧ (ρ 27).toInt ≤ 1000 := h 27 (by decide)
  have r28 : 0 ≤ (ρ 28).toInt ∧ (ρ 28).toInt ≤ 1000 := h 28 (by decide)
  have r29 : 0 ≤ (ρ 29).toInt ∧ (ρ 29).toInt ≤ 1000 := h 29 (by decide)
  have r30 : 0 ≤ (ρ 30).toInt ∧ (ρ 30).toInt ≤ 1000 := h 30 (by decide)
  have r31 : 0 ≤ (ρ 31).toInt ∧ (ρ 31).toInt ≤ 1000 := h 31 (by decide)
  rw [window_eq]
  have e1 : (ρ 26 + ρ 27).toInt = (ρ 26).toInt + (ρ 27).toInt := ta (by omega) (by omega)
  have e2 : (ρ 26 + ρ 27 + ρ 28).toInt = (ρ 26).toInt + (ρ 27).toInt + (ρ 28).toInt := by rw [ta (by omega) (by omega), e1]
  have e3 : (ρ 26 + ρ 27 + ρ 28 + ρ 29).toInt = (ρ 26).toInt + (ρ 27).toInt + (ρ 28).toInt + (ρ 29).toInt := by rw [ta (by omega) (by omega), e2]
  have e4 : (ρ 26 + ρ 27 + ρ 28 + ρ 29 + ρ 30).toInt = (ρ 26).toInt + (ρ 27).toInt + (ρ 28).toInt + (ρ 29).toInt + (ρ 30).toInt := by rw [ta (by omega) (by omega), e3]
  rw [ta (by omega) (by omega), e4]
theorem latest_le {ρ : Nat → Int32} (h : BD ρ) : (S_at ρ 26 1 6 (S_J9_floorMod_7cf53 (ρ 18) 6)).toInt ≤ (S_X0_window ρ).toInt := by
  have b18 : 0 ≤ (ρ 18).toInt ∧ (ρ 18).toInt ≤ 10000 := h 18 (by decide)
  obtain ⟨a1, a2, -⟩ := age_ix (a := ρ 18) ⟨b18.1, by omega⟩
  rw [S_at_in a1 a2 (by decide), win_t h]
  have r26 : 0 ≤ (ρ 26).toInt ∧ (ρ 26).toInt ≤ 1000 := h 26 (by decide)
  have r27 : 0 ≤ (ρ 27).toInt ∧ (ρ 27).toInt ≤ 1000 := h 27 (by decide)
  have r28 : 0 ≤ (ρ 28).toInt ∧ (ρ 28).toInt ≤ 1000 := h 28 (by decide)
  have r29 : 0 ≤ (ρ 29).toInt ∧ (ρ 29).toInt ≤ 1000 := h 29 (by decide)
  have r30 : 0 ≤ (ρ 30).toInt ∧ (ρ 30).toInt ≤ 1000 := h 30 (by decide)
  have r31 : 0 ≤ (ρ 31).toInt ∧ (ρ 31).toInt ≤ 1000 := h 31 (by decide)
  generalize ((ρ 18).toInt % 6).toNat = A at a2
  rcases (show A = 0 ∨ A = 1 ∨ A = 2 ∨ A = 3 ∨ A = 4 ∨ A = 5 by omega) with rfl | rfl | rfl | rfl | rfl | rfl
  · show (ρ 26).toInt ≤ _; omega
  · show (ρ 27).toInt ≤ _; omega
  · show (ρ 28).toInt ≤ _; omega
  · show (ρ 29).toInt ≤ _; omega
  · show (ρ 30).toInt ≤ _; omega
  · show (ρ 31).toInt ≤ _; omega
theorem logged_0 {h : Hp} (hl : LG (h 5)) {k : Int32} {K : Nat} (hk : k.toInt = K) (hK : (K : Int) < (h 5 1).toInt) : S_X9_logged h k 0 = h 5 0 - k := by
  have b := hl.1.2
  unfold S_X9_logged
  rw [if_neg (fun c => by have := Int32.lt_iff_toInt_lt.mp c; have z : (0 : Int32).toInt = 0 := rfl; omega), if_neg (by decide), if_neg (fun c => by have := Int32.le_iff_toInt_le.mp c; omega)]
  unfold S_X2_property
  have e6 : (k * 6).toInt = k.toInt * 6 := tml (b := 6) (by show -2147483648 ≤ k.toInt * 6; omega) (by show k.toInt * 6 < 2147483648; omega)
  have e : (k * 6 + 0).toInt = ((6 * K : Nat) : Int) := by
    rw [Int32.add_zero, e6, hk]
    omega
  rw [S_at_in e (by omega) (by decide), Nat.one_mul, hl.2 K hK]
  congr 1
  apply Int32.toInt_inj.mp
  rw [n_of (by omega), hk]
theorem right_loop {h : Hp} (hl : LG (h 5)) : ∀ (fu : Nat) (k : Int32) (K : Nat), k.toInt = K → 1 ≤ K → K ≤ 8 → ((h 5 1).toInt - K).toNat < fu → L_L_isRight_219 fu h k = 1 := by
  intro fu
  induction fu with
  | zero => intro _ _ _ _ _ h; exact absurd h (Nat.not_lt_zero _)
  | succ fu ih =>
    intro k K hk h1 h8 hm
    unfold L_L_isRight_219
    rw [count_10]
    by_cases c : h 5 1 ≤ k
    · rw [if_pos c]
    · rw [if_neg c]
      have c2 := nle c
      rw [hk] at c2
      have b := hl.1.2
      rw [if_pos (by rw [logged_0 hl hk c2, logged_0 hl (k := 0) (K := 0) rfl (by omega), Int32.sub_zero])]
      exact ih _ (K + 1) (k_up hk (by omega)) (by omega) (by omega) (by omega)
/-- all is right -/
theorem right_ok {h : Hp} (hw : WH h) : S_L_isRight h = 1 := by
  have hB := hw.1.1
  obtain ⟨q1, q2, q3, q4, q5, q6⟩ := hw.1.2
  have b7 : 0 ≤ (h 2 7).toInt ∧ (h 2 7).toInt ≤ 100 := hB 7 (by decide)
  have b5 : 1 ≤ (h 2 5).toInt ∧ (h 2 5).toInt ≤ 60 := hB 5 (by decide)
  have b13 : -20000 ≤ (h 2 13).toInt ∧ (h 2 13).toInt ≤ 20000 := hB 13 (by decide)
  have b20 : 0 ≤ (h 2 20).toInt ∧ (h 2 20).toInt ≤ 1000 := hB 20 (by decide)
  have b19 : 0 ≤ (h 2 19).toInt := (hB 19 (by decide)).1
  have bl := hw.2.2.2.1
  have lt : ∀ {a b : Int32}, b.toInt ≤ a.toInt → ¬ a < b := fun q c => by have := Int32.lt_iff_toInt_lt.mp c; omega
  have hl : L_L_isRight_219 (((S_X9_count h 10).toInt - (1 : Int32).toInt).toNat + 1) h 1 = 1 := by
    rw [count_10]
    exact right_loop hw.2.2.2 _ 1 1 rfl (by decide) (by decide) (Nat.lt_succ_self _)
  unfold S_L_isRight
  rw [hl, count_5, count_6, count_7, count_10, count_1]
  rw [if_neg (show ¬ h 2 7 < 0 from lt b7.1), if_neg (show ¬ 100 < h 2 7 from lt b7.2), if_neg (show ¬ h 2 5 < 1 from lt b5.1), if_neg (show ¬ 60 < h 2 5 from lt b5.2), if_neg (show ¬ 8 < h 5 1 from lt bl.2), if_neg (show ¬ 20000 < h 2 13 from lt b13.2), if_pos (show -20000 ≤ h 2 13 from Int32.le_iff_toInt_le.mpr b13.1)]
  by_cases p : h 2 1 = 0
  · rw [if_pos p]
  · rw [if_neg p]
    rw [batch_n p (k := 4) (by decide), batch_n p (k := 6) (by decide), batch_n p (k := 5) (by decide), batch_n p (k := 3) (by decide), batch_n p (k := 9) (by decide), batch_n p (k := 0) (by decide), batch_n p (k := 7) (by decide), batch_n p (k := 8) (by decide)]
    rw [num_3, num_4, num_5, num_6, num_7, num_8, num_9]
    have n0 : S_X0_number (h 2) 0 = h 2 16 := by
      unfold S_X0_number
      rw [if_pos rfl]
    rw [n0]
    have ww := win_t hB
    rw [if_neg (show ¬ h 2 20 < 0 from lt b20.1), if_neg (show ¬ 1000 < h 2 20 from lt b20.2), if_neg (show ¬ h 2 20 < S_X0_window (h 2) from lt (by rw [ww]; exact q4)), if_neg (lt (latest_le hB)), if_neg (show ¬ h 2 19 < 0 from lt b19)]
    have n23 : ¬ h 2 23 = 0 := fun c => by
      rcases q5 with q | q
      · rw [c] at q; exact absurd q (by decide)
      · rw [c] at q; exact absurd q.1 (by decide)
    have rest : (if h 2 23 = 0 then (0 : Int32) else if h 2 24 < 0 then 1 else if h 2 24 ≤ h 2 23 then 0 else if 0 ≤ h 2 23 then 1 else 0) = 1 := by
      rw [if_neg n23]
      by_cases c : h 2 24 < 0
      · rw [if_pos c]
      · rw [if_neg c]
        have c2 : 0 ≤ (h 2 24).toInt := nlt c
        rcases q6 with q | q
        · rw [q] at c2; exact absurd c2 (by decide)
        · rw [if_neg (fun d => by have := Int32.le_iff_toInt_le.mp d; omega), if_pos (Int32.le_iff_toInt_le.mpr (by show 0 ≤ _; omega))]
    rw [rest]
    by_cases d : h 2 16 ≤ h 2 25
    · rw [if_pos d]
    · rw [if_neg d]
      rw [if_neg (fun c => d (Int32.le_iff_toInt_le.mpr (q3 c)))]
