theorem ip_ex {f : Nat → Int} (key : Int) : ∀ m, ASC f m → ∃ p, IP f m key p := by
  intro m
  induction m with
  | zero => intro _; exact ⟨0, Nat.le_refl 0, fun j hj => absurd hj (Nat.not_lt_zero _), fun h => absurd h (Nat.not_lt_zero _)⟩
  | succ m ih =>
    intro hA
    obtain ⟨p, h1, h2, h3⟩ := ih (fun j hj => hA j (by omega))
    by_cases c : p < m
    · exact ⟨p, by omega, h2, fun _ => h3 c⟩
    · have e : p = m := by omega
      subst e
      by_cases d : key ≤ f p
      · exact ⟨p, by omega, h2, fun _ => d⟩
      · refine ⟨p + 1, Nat.le_refl _, fun j hj => ?_, fun h => absurd h (Nat.lt_irrefl _)⟩
        by_cases e2 : j = p
        · rw [e2]; omega
        · exact h2 j (by omega)
theorem q_bd {x y d : Int} (hx : -3000 ≤ x ∧ x ≤ 3000) (hy : 0 ≤ y ∧ y ≤ d) (hd : 0 < d) : -3000 ≤ x * y / d ∧ x * y / d ≤ 3000 := by
  have q := pm (x := x) hy.1 hy.2
  have a : -3000 * d ≤ x * d := Int.mul_le_mul_of_nonneg_right hx.1 (by omega)
  have b : x * d ≤ 3000 * d := Int.mul_le_mul_of_nonneg_right hx.2 (by omega)
  refine ⟨(Int.le_ediv_iff_mul_le hd).mpr ?_, Int.ediv_le_of_le_mul hd ?_⟩
  · rcases Int.le_total 0 x with h | h
    · have := (q.1 h).1
      omega
    · have := (q.2 h).1
      omega
  · rcases Int.le_total 0 x with h | h
    · have := (q.1 h).2
      omega
    · have := (q.2 h).2
      omega
theorem target_bd {σ : Nat → Int32} {m : Nat} {ti : Int32} (hT : GT (fun j => σ (32 + j)) 8 m 400 0 3000) (h0 : 0 < m) (hti : -100000 ≤ ti.toInt ∧ ti.toInt ≤ 1000000) : -100000 ≤ (S_X10_targetAt σ ti).toInt ∧ (S_X10_targetAt σ ti).toInt ≤ 100000 := by
  obtain ⟨g1, g2, g3, g4, g5⟩ := hT
  have i1 : ∀ j, 32 + (1 + 2 * j) = 33 + 2 * j := fun j => by omega
  have i2 : ∀ j, 32 + (2 + 2 * j) = 34 + 2 * j := fun j => by omega
  have g3 : ASC (fun j => (σ (33 + 2 * j)).toInt) m := fun j hj => by
    have := g3 j hj
    dsimp only at this
    rw [i1, i1] at this
    exact this
  have g4 : ∀ j, j < m → 0 ≤ (σ (33 + 2 * j)).toInt ∧ (σ (33 + 2 * j)).toInt ≤ 400 := fun j hj => by
    have := g4 j hj
    dsimp only at this
    rw [i1] at this
    exact this
  have g5 : ∀ j, j < m → 0 ≤ (σ (34 + 2 * j)).toInt ∧ (σ (34 + 2 * j)).toInt ≤ 3000 := fun j hj => by
    have := g5 j hj
    dsimp only at this
    rw [i2] at this
    exact this
  obtain ⟨p, hp⟩ := ip_ex ti.toInt m g3
  rw [target_pt g1 g2 hp, if_neg (show ¬ m = 0 by omega)]
  obtain ⟨p1, p2, p3⟩ := hp
  by_cases c : p < m ∧ σ (33 + 2 * p) = ti
  · rw [if_pos c]
    have := g5 p c.1
    omega
  · rw [if_neg c]
    by_cases z : p = 0
    · rw [if_pos z]
      have := g5 0 h0
      rw [show 34 + 2 * 0 = 34 by rfl] at this
      omega
    · rw [if_neg z]
      obtain ⟨q, rfl⟩ : ∃ q, p = q + 1 := ⟨p - 1, by omega⟩
      by_cases w : q + 1 = m
      · rw [if_pos w]
        have := g5 q (by omega)
        rw [show 34 + 2 * q = 32 + 2 * m by omega] at this
        omega
      · rw [if_neg w]
        have a0 := g5 q (by omega)
        have a1 := g5 (q + 1) (by omega)
        have b0 := g4 q (by omega)
        have b1 := g4 (q + 1) (by omega)
        have c0 := p2 q (by omega)
        have c1 := p3 (by omega)
        have c2 := g3 q (by omega)
        dsimp only at c0 c1 c2
        rw [show 34 + 2 * q = 32 + 2 * (q + 1) by omega] at a0
        rw [show 33 + 2 * q = 31 + 2 * (q + 1) by omega] at b0 c0 c2
        generalize σ (34 + 2 * (q + 1)) = v1 at *
        generalize σ (32 + 2 * (q + 1)) = v0 at *
        generalize σ (33 + 2 * (q + 1)) = k1 at *
        generalize σ (31 + 2 * (q + 1)) = k0 at *
        have e1 : (v1 - v0).toInt = v1.toInt - v0.toInt := tsu (by omega) (by omega)
        have e2 : (ti - k0).toInt = ti.toInt - k0.toInt := tsu (by omega) (by omega)
        have e3 : (k1 - k0).toInt = k1.toInt - k0.toInt := tsu (by omega) (by omega)
        have q := q_bd (x := v1.toInt - v0.toInt) (y := ti.toInt - k0.toInt) (d := k1.toInt - k0.toInt) (by omega) (by omega) (by omega)
        have e4 := down_ml (x := v1 - v0) (m := ti - k0) (K := k1 - k0) (M := 1000) (D := k1.toInt - k0.toInt) (by rw [e1]; omega) (by rw [e2]; omega) (by decide) (by rw [e3]; omega) e3
        rw [e1, e2] at e4
        generalize S_X10_down ((v1 - v0) * (ti - k0)) (k1 - k0) = y at e4 ⊢
        rw [← e4] at q
        rw [ta (by omega) (by omega)]
        omega
theorem target_none {σ : Nat → Int32} {t : Int32} (h : σ 32 = 0) : S_X10_targetAt σ t = (-100009) := by
  unfold S_X10_targetAt
  rw [if_pos h]
/-- roaster, profile and losses alike, and good -/
def CR (ρ π μ σ : Nat → Int32) : Prop := RA ρ σ ∧ WI σ ∧ TK σ ∧ (∃ m, GT (fun j => σ (32 + j)) 8 m 400 0 3000 ∧ ∀ j, j ≤ 2 * m → π j = σ (32 + j)) ∧ ∃ m, GT (fun j => σ (49 + j)) 6 m 3000 0 1000 ∧ ∀ j, j ≤ 2 * m → μ j = σ (49 + j)
theorem CR_line {ρ π μ σ σ' : Nat → Int32} {t : Int32} (h : CR ρ π μ σ) (hs : ∀ k, 32 ≤ k → σ' k = σ k) (h0 : ¬ σ 32 = 0) (ht : -100000 ≤ t.toInt ∧ t.toInt ≤ 1000000) : S_X6_valueOnLine π 8 t = S_X10_targetAt σ' t ∧ ¬ S_X10_targetAt σ' t = (-100009) := by
  obtain ⟨_, _, _, ⟨m, g, r⟩, _⟩ := h
  have hm : 0 < m := Nat.pos_of_ne_zero (fun e => h0 (Int32.toInt_inj.mp (by
    have := g.1
    rw [e] at this
    exact this)))
  have g' : GT (fun j => σ' (32 + j)) 8 m 400 0 3000 := GT_agree (fun j _ => hs (32 + j) (by omega)) g
  have r' : ∀ j, j ≤ 2 * m → π j = σ' (32 + j) := fun j hj => by rw [r j hj, hs (32 + j) (by omega)]
  refine ⟨?_, fun c => ?_⟩
  · have gp := GT_agree (g := π) (fun j hj => r' j hj) g'
    exact line_eq (GT_TB gp) (by decide) g.2.1 hm (fun j hj => (gp.2.2.2.1 j hj).1) r'
  · have := (target_bd (ti := t) g' hm ht).1
    rw [c] at this
    exact absurd this (by decide)
theorem CR_rate {ρ π μ σ σ' : Nat → Int32} {key : Int32} (h : CR ρ π μ σ) (hs : ∀ k, 32 ≤ k → σ' k = σ k) (h1 : -100000 ≤ key.toInt) (h2 : key.toInt ≤ 100000) : S_X6_valueBelow μ 6 key = S_X10_rateAt σ' key := by
  obtain ⟨_, _, _, _, ⟨m, g, r⟩⟩ := h
  have r' : ∀ j, j ≤ 2 * m → μ j = σ' (49 + j) := fun j hj => by rw [r j hj, hs (49 + j) (by omega)]
  have gp := GT_agree (g := μ) (fun j hj => r j hj) g
  have hm := g.2.1
  exact below_eq gp.1 gp.2.1 (by decide) (by omega) h2 h1 r'
/-- a tick keeps roaster, profile and losses alike -/
theorem CR_tick {ρ π μ σ : Nat → Int32} (h : CR ρ π μ σ) (ha : 0 ≤ (σ 18).toInt ∧ (σ 18).toInt ≤ 500000) : CR (S_X4_tick ρ π μ) π μ (S_X10_tick σ) ∧ (S_X10_tick σ 18 = σ 18 ∨ S_X10_tick σ 18 = σ 18 + 1) ∧ S_X10_tick σ 0 = σ 0 + 1 ∧ ∀ k, k = 1 ∨ k = 3 ∨ k = 5 ∨ k = 6 ∨ k = 8 ∨ k = 9 ∨ k = 10 ∨ k = 11 ∨ k = 12 ∨ k = 14 ∨ k = 15 ∨ k = 17 ∨ 32 ≤ k → S_X10_tick σ k = σ k := by
  obtain ⟨hR, hW, hK, ⟨m, g, r⟩, ⟨m2, g2, r2⟩⟩ := h
  have h : CR ρ π μ σ := ⟨hR, hW, hK, ⟨m, g, r⟩, ⟨m2, g2, r2⟩⟩
  have fin : ∀ {ρ' σ' : Nat → Int32}, RA ρ' σ' → WI σ' → TK σ' → (∀ k, 32 ≤ k → σ' k = σ k) → CR ρ' π μ σ' := fun a b c d => ⟨a, b, c, ⟨m, GT_agree (fun j _ => d (32 + j) (by omega)) g, fun j hj => by rw [r j hj, d (32 + j) (by omega)]⟩, ⟨m2, GT_agree (fun j _ => d (49 + j) (by omega)) g2, fun j hj => by rw [r2 j hj, d (49 + j) (by omega)]⟩⟩
  by_cases hp : σ 1 = 1
  · obtain ⟨a, b, c, d, z, e⟩ := tick_roast (μ := μ) hR hK hW hp ha (r 0 (by omega)) (fun σ' hs t ht h0 => CR_line h hs h0 ht) (fun σ' t => target_none) (fun σ' hs key h1 h2 => CR_rate h hs h1 h2)
    generalize S_X10_tick σ = σ' at *
    exact ⟨fin a c b (fun k hk => e k (by omega)), Or.inr d, z, e⟩
  · obtain ⟨a, b, z, e⟩ := tick_idle (π := π) (μ := μ) hR hK hp
    generalize S_X10_tick σ = σ' at *
    have n : ∀ k : Nat, k = 1 ∨ k = 3 ∨ k = 5 ∨ k = 6 ∨ k = 8 ∨ k = 9 ∨ k = 10 ∨ k = 11 ∨ k = 12 ∨ k = 14 ∨ k = 15 ∨ k = 17 ∨ 32 ≤ k → σ' k = σ k := fun k hk => e k (by omega) (by omega) (by omega) (by omega)
    refine ⟨fin a ⟨?_, ?_⟩ b (fun k hk => n k (by omega)), Or.inl (e 18 (by decide) (by decide) (by decide) (by simp)), z, n⟩
    · rw [e 21 (by decide) (by decide) (by decide) (by simp), e 18 (by decide) (by decide) (by decide) (by simp)]
      rw [e _ (by omega) (by omega) (by omega) (by omega)]
      exact hW.1
    · rw [e 22 (by decide) (by decide) (by decide) (by simp), e 26 (by decide) (by decide) (by decide) (by simp), e 27 (by decide) (by decide) (by decide) (by simp), e 28 (by decide) (by decide) (by decide) (by simp), e 29 (by decide) (by decide) (by decide) (by simp), e 30 (by decide) (by decide) (by decide) (by simp), e 31 (by decide) (by decide) (by decide) (by simp)]
      exact hW.2
