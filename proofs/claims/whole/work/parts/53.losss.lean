theorem loss_set {π σ : Nat → Int32} {m : Nat} {ti te : Int32} (g : GT (fun j => σ (49 + j)) 6 m 3000 0 1000) (r : ∀ j, j ≤ 2 * m → π j = σ (49 + j)) (hti : 0 ≤ ti.toInt ∧ ti.toInt ≤ 3000) (hte : 0 ≤ te.toInt ∧ te.toInt ≤ 1000) : (S_X6_hasRoomFor π 6 ti = 0 ↔ S_X10_isAt σ 50 (σ 49) (S_X10_place σ 50 (σ 49) ti) ti = 0 ∧ σ 49 = 6) ∧ (¬ S_X6_hasRoomFor π 6 ti = 0 → (∀ j, j < 49 ∨ 62 ≤ j → S_X10_insert_R σ ti te j = σ j) ∧ ∃ m', GT (fun j => S_X10_insert_R σ ti te (49 + j)) 6 m' 3000 0 1000 ∧ ∀ j, j ≤ 2 * m' → S_X6_set π 6 ti te j = S_X10_insert_R σ ti te (49 + j)) := by
  have em : (σ 49).toInt = m := g.1
  have hm6 := g.2.1
  have hm : m ≤ 8 := by omega
  obtain ⟨P, e, hP⟩ := place_ip (σ := σ) (li := 50) (ma := σ 49) (ke := ti) (L := 50) rfl (by decide) em hm
  have ia := isAt_pt (σ := σ) (li := 50) (ke := ti) (L := 50) rfl (by decide) em hm e hP.1
  generalize S_X10_place σ 50 (σ 49) ti = Q at *
  rw [ia]
  clear ia e
  have hpm := hP.1
  have gp := GT_agree (g := π) r g
  have i1 : ∀ j, 49 + (1 + 2 * j) = 50 + 2 * j := fun j => by omega
  have hPπ : IP (fun j => (π (1 + 2 * j)).toInt) m ti.toInt P := IP_congr (fun j hj => by
    rw [r (1 + 2 * j) (by omega), i1]) hP
  have hPσ : IP (fun j => ((fun j => σ (49 + j)) (1 + 2 * j)).toInt) m ti.toInt P := IP_congr (fun j hj => by
    dsimp only
    rw [i1]) hP
  have hab : (P < m ∧ π (1 + 2 * P) = ti) ↔ (P < m ∧ σ (50 + 2 * P) = ti) := by
    constructor
    · intro ⟨h1, h2⟩
      rw [r _ (by omega), i1] at h2
      exact ⟨h1, h2⟩
    · intro ⟨h1, h2⟩
      rw [← i1, ← r _ (by omega)] at h2
      exact ⟨h1, h2⟩
  have room := room_pt (GT_TB gp) (by decide) hPπ
  have set := fun hr => set_pt (v := te) (GT_TB gp) (by decide) hPπ hr
  obtain ⟨ip1, ip2⟩ := insR_pt (va := te) em hm hP
  rw [room]
  by_cases c : m < 6 ∨ (P < m ∧ π (1 + 2 * P) = ti)
  · rw [if_pos c]
    refine ⟨⟨fun q => absurd q (by decide), fun q => ?_⟩, fun _ => ⟨fun j hj => ?_, ?_⟩⟩
    · obtain ⟨q1, q2⟩ := q
      by_cases d : P < m ∧ σ (50 + 2 * P) = ti
      · rw [if_pos d] at q1
        exact absurd q1 (by decide)
      · rcases c with c | c
        · have := congrArg Int32.toInt q2
          rw [em] at this
          have z : (6 : Int32).toInt = 6 := rfl
          omega
        · exact absurd (hab.mp c) d
    · rcases hj with hj | hj
      · exact ip2 j hj
      · have := ip1 (j - 49)
        rw [show 49 + (j - 49) = j by omega] at this
        rw [this]
        by_cases d : P < m ∧ σ (50 + 2 * P) = ti
        · rw [INS_far (by omega) (fun q => absurd d q)]
          congr 1
          omega
        · have hm8 : m < 6 := c.resolve_right (fun q => d (hab.mp q))
          rw [INS_far (by omega) (fun _ => by omega)]
          congr 1
          omega
    · refine ⟨if (P < m ∧ σ (50 + 2 * P) = ti) then m else m + 1, ?_, fun j hj => ?_⟩
      · have gg := INS_good (v := te) (a := P < m ∧ σ (50 + 2 * P) = ti) (by decide) g hPσ (by rw [i1]) (c.imp id (fun q => hab.mp q)) hti hte
        have e : (fun j => S_X10_insert_R σ ti te (49 + j)) = INS (fun j => σ (49 + j)) (P < m ∧ σ (50 + 2 * P) = ti) P m ti te := funext ip1
        rw [e]
        exact gg
      · rw [set c, ip1]
        refine INS_agree hab hpm r ?_
        by_cases d : P < m ∧ σ (50 + 2 * P) = ti
        · rw [if_pos d] at hj
          rw [if_pos (hab.mpr d)]
          exact hj
        · rw [if_neg d] at hj
          rw [if_neg (fun q => d (hab.mp q))]
          exact hj
  · rw [if_neg c]
    refine ⟨⟨fun _ => ?_, fun _ => rfl⟩, fun q => absurd rfl q⟩
    rw [if_neg (fun q => c (Or.inr (hab.mpr q)))]
    refine ⟨rfl, Int32.toInt_inj.mp ?_⟩
    rw [em]
    have : ¬ m < 6 := fun q => c (Or.inl q)
    have z : (6 : Int32).toInt = 6 := rfl
    omega
