theorem prof_out {π σ : Nat → Int32} {m : Nat} {ti : Int32} (g : GT (fun j => σ (32 + j)) 8 m 400 0 3000) (r : ∀ j, j ≤ 2 * m → π j = σ (32 + j)) : (S_X6_has π 8 ti = 0 ↔ S_X10_isAt σ 33 (σ 32) (S_X10_place σ 33 (σ 32) ti) ti = 0) ∧ (¬ S_X6_has π 8 ti = 0 → S_X6_valueBelow π 8 ti = σ (Int32.toNatClampNeg (33 + 2 * S_X10_place σ 33 (σ 32) ti + 1)) ∧ (∀ j, j < 32 ∨ 49 ≤ j → S_X10_takeOut_P σ (S_X10_place σ 33 (σ 32) ti) j = σ j) ∧ ∃ m', GT (fun j => S_X10_takeOut_P σ (S_X10_place σ 33 (σ 32) ti) (32 + j)) 8 m' 400 0 3000 ∧ ∀ j, j ≤ 2 * m' → S_X6_remove π 8 ti j = S_X10_takeOut_P σ (S_X10_place σ 33 (σ 32) ti) (32 + j)) := by
  have em : (σ 32).toInt = m := g.1
  have hmn := g.2.1
  have hm : m ≤ 8 := by omega
  obtain ⟨P, e, hP⟩ := place_ip (σ := σ) (li := 33) (ma := σ 32) (ke := ti) (L := 33) rfl (by decide) em hm
  have ia := isAt_pt (σ := σ) (li := 33) (ke := ti) (L := 33) rfl (by decide) em hm e hP.1
  generalize S_X10_place σ 33 (σ 32) ti = Q at *
  rw [ia]
  clear ia
  have hpm := hP.1
  have gp := GT_agree (g := π) r g
  have i1 : ∀ j, 32 + (1 + 2 * j) = 33 + 2 * j := fun j => by omega
  have hPπ : IP (fun j => (π (1 + 2 * j)).toInt) m ti.toInt P := IP_congr (fun j hj => by
    rw [r (1 + 2 * j) (by omega), i1]) hP
  have hab : (P < m ∧ π (1 + 2 * P) = ti) ↔ (P < m ∧ σ (33 + 2 * P) = ti) := by
    constructor
    · intro ⟨h1, h2⟩
      rw [r _ (by omega), i1] at h2
      exact ⟨h1, h2⟩
    · intro ⟨h1, h2⟩
      rw [← i1, ← r _ (by omega)] at h2
      exact ⟨h1, h2⟩
  have has := has_pt (GT_TB gp) (by decide) hPπ
  have rem := fun hr => remove_pt (GT_TB gp) (by decide) hPπ hr
  have bel := below_pt (GT_TB gp) (by decide) hPπ
  rw [has]
  by_cases c : P < m ∧ π (1 + 2 * P) = ti
  · have d := hab.mp c
    rw [if_pos c, if_pos d]
    obtain ⟨o1, o2⟩ := outP_pt em hm e c.1
    refine ⟨⟨fun q => absurd q (by decide), fun q => absurd q (by decide)⟩, fun _ => ⟨?_, fun j hj => ?_, ?_⟩⟩
    · unfold S_X6_valueBelow
      rw [if_pos c] at bel
      generalize S_X6_indexBelow π 8 ti = b at *
      rw [if_pos (nn_i bel), S_at_in bel (by omega) (by decide), r _ (by omega)]
      have n2 := (ins_ix (li := 33) (L := 33) (by decide) rfl e (by omega)).2.2
      rw [n2]
      congr 1
      omega
    · rcases hj with hj | hj
      · exact o2 j hj
      · have := o1 (j - 32)
        rw [show 32 + (j - 32) = j by omega] at this
        rw [this, OUT_far (by omega)]
        congr 1
        omega
    · obtain ⟨m', rfl⟩ : ∃ m', m = m' + 1 := ⟨m - 1, by omega⟩
      refine ⟨m', ?_, fun j hj => ?_⟩
      · have gg := OUT_good (p := P) (by decide) g c.1
        rw [show (fun j => S_X10_takeOut_P σ Q (32 + j)) = OUT (fun j => σ (32 + j)) P (m' + 1) from funext o1]
        exact gg
      · rw [rem c, o1]
        exact OUT_agree r hj
  · rw [if_neg c, if_neg (fun q => c (hab.mpr q))]
    exact ⟨⟨fun _ => rfl, fun _ => rfl⟩, fun q => absurd rfl q⟩
theorem loss_out {π σ : Nat → Int32} {m : Nat} {ti : Int32} (g : GT (fun j => σ (49 + j)) 6 m 3000 0 1000) (r : ∀ j, j ≤ 2 * m → π j = σ (49 + j)) : (S_X6_has π 6 ti = 0 ↔ S_X10_isAt σ 50 (σ 49) (S_X10_place σ 50 (σ 49) ti) ti = 0) ∧ (¬ S_X6_has π 6 ti = 0 → S_X6_valueBelow π 6 ti = σ (Int32.toNatClampNeg (50 + 2 * S_X10_place σ 50 (σ 49) ti + 1)) ∧ (∀ j, j < 49 ∨ 62 ≤ j → S_X10_takeOut_R σ (S_X10_place σ 50 (σ 49) ti) j = σ j) ∧ ∃ m', GT (fun j => S_X10_takeOut_R σ (S_X10_place σ 50 (σ 49) ti) (49 + j)) 6 m' 3000 0 1000 ∧ ∀ j, j ≤ 2 * m' → S_X6_remove π 6 ti j = S_X10_takeOut_R σ (S_X10_place σ 50 (σ 49) ti) (49 + j)) := by
  have em : (σ 49).toInt = m := g.1
  have hmn := g.2.1
  have hm : m ≤ 8 := by omega
  obtain ⟨P, e, hP⟩ := place_ip (σ := σ) (li := 50) (ma := σ 49) (ke := ti) (L := 50) rfl (by decide) em hm
  have ia := isAt_pt (σ := σ) (li := 50) (ke := ti) (L := 50) rfl (by decide) em hm e hP.1
  generalize S_X10_place σ 50 (σ 49) ti = Q at *
  rw [ia]
  clear ia
  have hpm := hP.1
  have gp := GT_agree (g := π) r g
  have i1 : ∀ j, 49 + (1 + 2 * j) = 50 + 2 * j := fun j => by omega
  have hPπ : IP (fun j => (π (1 + 2 * j)).toInt) m ti.toInt P := IP_congr (fun j hj => by
    rw [r (1 + 2 * j) (by omega), i1]) hP
  have hab : (P < m ∧ π (1 + 2 * P) = ti) ↔ (P < m ∧ σ (50 + 2 * P) = ti) := by
    constructor
    · intro ⟨h1, h2⟩
      rw [r _ (by omega), i1] at h2
      exact ⟨h1, h2⟩
    · intro ⟨h1, h2⟩
      rw [← i1, ← r _ (by omega)] at h2
      exact ⟨h1, h2⟩
  have has := has_pt (GT_TB gp) (by decide) hPπ
  have rem := fun hr => remove_pt (GT_TB gp) (by decide) hPπ hr
  have bel := below_pt (GT_TB gp) (by decide) hPπ
  rw [has]
  by_cases c : P < m ∧ π (1 + 2 * P) = ti
  · have d := hab.mp c
    rw [if_pos c, if_pos d]
    obtain ⟨o1, o2⟩ := outR_pt em hm e c.1
    refine ⟨⟨fun q => absurd q (by decide), fun q => absurd q (by decide)⟩, fun _ => ⟨?_, fun j hj => ?_, ?_⟩⟩
    · unfold S_X6_valueBelow
      rw [if_pos c] at bel
      generalize S_X6_indexBelow π 6 ti = b at *
      rw [if_pos (nn_i bel), S_at_in bel (by omega) (by decide), r _ (by omega)]
      have n2 := (ins_ix (li := 50) (L := 50) (by decide) rfl e (by omega)).2.2
      rw [n2]
      congr 1
      omega
    · rcases hj with hj | hj
      · exact o2 j hj
      · have := o1 (j - 49)
        rw [show 49 + (j - 49) = j by omega] at this
        rw [this, OUT_far (by omega)]
        congr 1
        omega
    · obtain ⟨m', rfl⟩ : ∃ m', m = m' + 1 := ⟨m - 1, by omega⟩
      refine ⟨m', ?_, fun j hj => ?_⟩
      · have gg := OUT_good (p := P) (by decide) g c.1
        rw [show (fun j => S_X10_takeOut_R σ Q (49 + j)) = OUT (fun j => σ (49 + j)) P (m' + 1) from funext o1]
        exact gg
      · rw [rem c, o1]
        exact OUT_agree r hj
  · rw [if_neg c, if_neg (fun q => c (hab.mpr q))]
    exact ⟨⟨fun _ => rfl, fun _ => rfl⟩, fun q => absurd rfl q⟩
theorem removePoint_eq {N : Nat} {h : Hp} {κ σ β τ : Nat → Int32} (hN : N ≤ 100000) (hC : CI N h κ σ β τ) (ti : Int32) : (S_X9_removePoint h ti).1 = (S_X10_removePoint κ σ β ti).1 ∧ CI (N + 1) (S_X9_removePoint h ti).2 (S_X10_removePoint κ σ β ti).2.1 (S_X10_removePoint κ σ β ti).2.2.1 (S_X10_removePoint κ σ β ti).2.2.2 τ := by
  obtain ⟨R, A, eR, eA, rl, q⟩ := CI_pack hN hC
  unfold S_X9_removePoint S_X10_removePoint
  rw [in_eq, eR]
  dsimp only
  rw [eA]
  clear eR eA
  by_cases c0 : S_X10_in ti 0 400 = 0
  · rw [if_pos c0, if_pos c0]
    exact ⟨rfl, CI_none rfl rfl hC⟩
  rw [if_neg c0, if_neg c0]
  obtain ⟨m, g, r⟩ := hC.1.1.2.2.2.1
  obtain ⟨p1, p2⟩ := prof_out (ti := ti) g r
  by_cases c : S_X6_has (h 3) 8 ti = 0
  · rw [if_pos c, if_pos (p1.mp c)]
    exact ⟨rfl, CI_none rfl rfl hC⟩
  obtain ⟨v, f, G⟩ := p2 c
  rw [if_neg c, if_neg (fun a => c (p1.mpr a)), rl 3 (by decide), v]
  generalize S_X6_remove (h 3) 8 ti = π' at *
  generalize S_X10_place σ 33 (σ 32) ti = Q at *
  generalize S_X10_takeOut_P σ Q = σ' at *
  dsimp only
  refine ⟨rfl, q _ _ ?_ (fun k hk => va_up_ne _ _ (by omega))⟩
  rw [va_up_self, va_up_ne _ _ (show 2 ≠ 3 by decide), va_up_ne _ _ (show 4 ≠ 3 by decide), va_up_ne _ _ (show 5 ≠ 3 by decide), rl 2 (by decide), rl 4 (by decide), rl 5 (by decide)]
  exact SR_prof (SR_mono hC.1) f G
