set_option maxHeartbeats 8000000 in
theorem read_loop {T τ κ σ α β ω ρ0 π0 α1 : Nat → Int32} {n : Nat} (hT : TT T τ n) : ∀ (fu2 fu1 i K : Nat) (sa tk : Int32) (ρ1 π1 κ1 σ1 : Nat → Int32), fu1 + K = 101 → K ≤ i → i ≤ n → n - i < fu2 → sa.toInt = i → tk.toInt = K → (i < n → ¬ τ i = 32) → κ1 3 = sa → κ1 4 = -100009 → (κ1 2).toInt = n → TI κ1 → RDP ρ1 π1 σ1 → ∃ κ2 σ2 : Nat → Int32, (∀ k, k ≠ 3 → k ≠ 4 → κ2 k = κ1 k) ∧ TI κ2 ∧ (((L_X3_errorPosition_24 fu1 ρ0 π0 T 0 sa tk ρ1 π1).1 = -1 ∧ L_X10_load_32 fu2 κ σ α β τ ω κ1 σ1 α1 = L_X10_load_127 17 κ σ α β τ ω 0 κ2 σ2 α1 ω (σ2 32) ∧ RDP (L_X3_errorPosition_24 fu1 ρ0 π0 T 0 sa tk ρ1 π1).2.1 (L_X3_errorPosition_24 fu1 ρ0 π0 T 0 sa tk ρ1 π1).2.2 σ2 ∧ ∀ j, j < 32 ∨ 49 ≤ j → σ2 j = σ1 j) ∨ (¬ (L_X3_errorPosition_24 fu1 ρ0 π0 T 0 sa tk ρ1 π1).1 = -1 ∧ L_X10_load_32 fu2 κ σ α β τ ω κ1 σ1 α1 = (-200000 - (L_X3_errorPosition_24 fu1 ρ0 π0 T 0 sa tk ρ1 π1).1, κ2, S_X10_release σ2 α1, α1, β, ω))) := by
  intro fu2
  induction fu2 with
  | zero => intro _ _ _ _ _ _ _ _ _ _ _ _ h; exact absurd h (Nat.not_lt_zero _)
  | succ fu2 ih =>
    intro fu1 i K sa tk ρ1 π1 κ1 σ1 hfu hKi hin hf2 hs hk hsp h3 h4 h2 hTI hR
    have hn := hT.2.1
    have hT0 := hT.1
    obtain ⟨f1, rfl⟩ : ∃ f, fu1 = f + 1 := ⟨fu1 - 1, by omega⟩
    by_cases c : i = n
    · subst c
      rw [ep_out hT0 hs, ld_out h4 (by rw [h3]; exact Int32.le_iff_toInt_le.mpr (by omega))]
      exact ⟨κ1, σ1, fun _ _ _ => rfl, hTI, Or.inl ⟨rfl, rfl, hR, fun _ _ => rfl⟩⟩
    have hi : i < n := by omega
    obtain ⟨hbe, b1, b2⟩ := RDP_be hR
    have hnn : ¬ κ1 2 ≤ κ1 3 := fun q => by
      have := Int32.le_iff_toInt_le.mp q
      rw [h3] at this
      omega
    rw [ld_in h4 hnn hbe]
    have hs32 : 0 ≤ (σ1 32).toInt ∧ (σ1 32).toInt ≤ 8 := by
      obtain ⟨m, g, _, _⟩ := hR
      have a : (σ1 32).toInt = m := g.1
      have b := g.2.1
      omega
    have rf := read_f (τ := τ) (be := ρ1 0) hTI hnn hs32
    have rk := fun (k : Nat) (a : k ≠ 3) (b : k ≠ 4) => rp_k (τ := τ) (σ := σ1) (be := ρ1 0) hTI a b
    obtain ⟨EP, hEP⟩ : ∃ E, L_X3_errorPosition_24 (f1 + 1) ρ0 π0 T 0 sa tk ρ1 π1 = E := ⟨_, rfl⟩
    rw [hEP]
    obtain ⟨f2, rfl⟩ : ∃ f, fu2 = f + 1 := ⟨fu2 - 1, by omega⟩
    have bad : ∀ P : Int32, 0 ≤ P.toInt → (S_X10_readPoint κ1 σ1 τ (ρ1 0)).1 4 = P → EP.1 = P → ∃ κ2 σ2 : Nat → Int32, (∀ k, k ≠ 3 → k ≠ 4 → κ2 k = κ1 k) ∧ TI κ2 ∧ ((EP.1 = -1 ∧ L_X10_load_32 (f2 + 1) κ σ α β τ ω (S_X10_skip (S_X10_readPoint κ1 σ1 τ (ρ1 0)).1 τ) (S_X10_readPoint κ1 σ1 τ (ρ1 0)).2 α1 = L_X10_load_127 17 κ σ α β τ ω 0 κ2 σ2 α1 ω (σ2 32) ∧ RDP EP.2.1 EP.2.2 σ2 ∧ ∀ j, j < 32 ∨ 49 ≤ j → σ2 j = σ1 j) ∨ (¬ EP.1 = -1 ∧ L_X10_load_32 (f2 + 1) κ σ α β τ ω (S_X10_skip (S_X10_readPoint κ1 σ1 τ (ρ1 0)).1 τ) (S_X10_readPoint κ1 σ1 τ (ρ1 0)).2 α1 = (-200000 - EP.1, κ2, S_X10_release σ2 α1, α1, β, ω))) := fun P hP0 hP hE => by
      generalize S_X10_readPoint κ1 σ1 τ (ρ1 0) = RP at *
      have t := TI_X10_skip (τ := τ) rf.1
      have sk := skip_SK (τ := τ) rf.1
      have w4 := skip_ne (τ := τ) rf.1 (k := 4) (by decide)
      rw [hP] at w4
      have n1 : ¬ P = -100009 := fun q => by
        rw [q] at hP0
        exact absurd hP0 (by decide)
      have n2 : ¬ P = -1 := fun q => by
        rw [q] at hP0
        exact absurd hP0 (by decide)
      rw [ld_err (by rw [w4]; exact n1), w4, hE]
      exact ⟨_, RP.2, fun k a b => (sk.1 k a b).trans (rk k a b), t, Or.inr ⟨n2, rfl⟩⟩
    clear rf rk
    have np : ∀ (P : Int32) (p : Nat), P.toInt = p → ¬ P = -100009 := fun P p hp q => by
      rw [q] at hp
      have : (-100009 : Int32).toInt = -100009 := rfl
      omega
    rw [ep_in hT0 hn hk hs hi hKi, tk0] at hEP
    have p0 : π1 0 = σ1 32 := by
      obtain ⟨m, _, r, _⟩ := hR
      exact r 0 (by omega)
    by_cases h8 : σ1 32 = 8
    · refine bad sa (by rw [hs]; exact Int.natCast_nonneg _) (rp_bad5 hTI rfl (np sa i hs) (Or.inl (by rw [if_pos h8, va_up_self]; exact h3))).1 ?_
      rw [p0, h8, if_pos (Int32.le_refl _)] at hEP
      rw [if_pos rfl] at hEP
      rw [← hEP]
    have n8 : ¬ 8 ≤ π1 0 := fun q => h8 (Int32.toInt_inj.mp (by
      have := Int32.le_iff_toInt_le.mp q
      rw [p0] at this
      have z : (8 : Int32).toInt = 8 := rfl
      omega))
    have e4 : va_up κ1 4 (if σ1 32 = 8 then κ1 3 else κ1 4) = κ1 := by rw [if_neg h8]; exact va_up_id2 rfl
    obtain ⟨j0, -, -, -, sk0, -, sid⟩ := sp_at (κ := κ1) hT hs hin h3 h2
    have e0 : S_X10_skip κ1 τ = κ1 := by rw [sk0, sid hsp]; exact va_up_id2 h3
    have tkn : S_X10_takeNumber κ1 τ (ρ1 0 + 1) 400 = L_X10_takeNumber_12 (((κ1 2).toInt - (κ1 3).toInt).toNat + 1) κ1 τ (ρ1 0 + 1) 400 sa 0 κ1 := by
      unfold S_X10_takeNumber
      dsimp only
      rw [e0, h3]
    have z1 : (1 : Int32).toInt = 1 := rfl
    have z400 : (400 : Int32).toInt = 400 := rfl
    have be1 : (ρ1 0 + 1).toInt = (ρ1 0).toInt + 1 := by rw [ta (by rw [z1]; omega) (by rw [z1]; omega), z1]
    have key := num_at (κ := κ1) (le := ρ1 0 + 1) (mo := 400) hT hs hi h3 h2 h4 (by rw [be1]; omega) (by decide)
    rw [← tkn] at key
    clear tkn
    have inn : ∀ nu : Int32, S_X10_in nu (ρ1 0 + 1) 400 = 0 ↔ (nu ≤ ρ1 0 ∨ S_X10_in nu 0 400 = 0) := fun nu => by
      have z0 : (0 : Int32).toInt = 0 := rfl
      unfold S_X10_in
      constructor
      · intro q
        by_cases d1 : nu < ρ1 0 + 1
        · have := Int32.lt_iff_toInt_lt.mp d1
          exact Or.inl (Int32.le_iff_toInt_le.mpr (by omega))
        · rw [if_neg d1] at q
          by_cases d2 : 400 < nu
          · refine Or.inr ?_
            rw [if_pos d2, ite_self]
          · rw [if_neg d2] at q
            exact absurd q (by decide)
      · intro q
        by_cases d1 : nu < ρ1 0 + 1
        · rw [if_pos d1]
        · rw [if_neg d1]
          have d1' := nlt d1
          rcases q with q | q
          · have := Int32.le_iff_toInt_le.mp q
            omega
          · by_cases d2 : 400 < nu
            · rw [if_pos d2]
            · rw [if_neg d2, if_neg (show ¬ nu < 0 from fun w => by have := Int32.lt_iff_toInt_lt.mp w; omega)] at q
              exact absurd q (by decide)
    clear be1
    generalize S_X8_numberIn T sa (S_X8_afterToken T sa) = nu1 at *
    generalize S_X8_afterToken T sa = E1 at *
    rcases key with ⟨g1, e5, j1, g3, g4, g5⟩ | ⟨g1, g2⟩
    rotate_left
    · refine bad sa (by rw [hs]; exact Int.natCast_nonneg _) (rp_bad5 hTI e4 (np sa i hs) (Or.inr g2)).1 ?_
      rw [if_neg n8] at hEP
      by_cases d1 : nu1 ≤ ρ1 0
      · rw [if_pos d1, if_pos rfl] at hEP
        rw [← hEP]
      · rw [if_neg d1, if_pos (((inn nu1).mp g1).resolve_left d1), if_pos rfl] at hEP
        rw [← hEP]
    have q1 : ¬ nu1 ≤ ρ1 0 := fun q => g1 ((inn nu1).mpr (Or.inl q))
    have q2 : ¬ S_X10_in nu1 0 400 = 0 := fun q => g1 ((inn nu1).mpr (Or.inr q))
    have x1 : (if (0 : Int32) = 2 then (0 : Int32) else 0 + 1) = 1 := by decide
    rw [if_neg n8, if_neg q1, if_neg q2, if_neg (show ¬ (1 : Int32) = 0 by decide), x1] at hEP
    dsimp only at hEP
    have hκE : TI (va_up κ1 3 E1) := by
      have := TI_X10_takeNumber (τ := τ) (le := ρ1 0 + 1) (mo := 400) hTI
      rw [e5] at this
      exact this
    obtain ⟨i1, a1, a2, a3, a4, a5, -⟩ := sp_at (κ := va_up κ1 3 E1) hT g5 g4 (va_up_self _ _ _) (by rw [va_up_ne _ _ (by decide)]; exact h2)
    rw [va_up_up] at a4
    generalize S_X8_afterSpaces T E1 = sa1 at *
    obtain ⟨κa, eκa⟩ : ∃ r, va_up κ1 3 sa1 = r := ⟨_, rfl⟩
    rw [eκa] at a4
    have ka3 : κa 3 = sa1 := by rw [← eκa, va_up_self]
    have ka2 : (κa 2).toInt = n := by rw [← eκa, va_up_ne _ _ (by decide)]; exact h2
    have ka4 : κa 4 = -100009 := by rw [← eκa, va_up_ne _ _ (by decide)]; exact h4
    have tkn2 : S_X10_takeNumber (va_up κ1 3 E1) τ 0 3000 = L_X10_takeNumber_12 (((κa 2).toInt - (κa 3).toInt).toNat + 1) (va_up κ1 3 E1) τ 0 3000 sa1 0 κa := by
      unfold S_X10_takeNumber
      dsimp only
      rw [a4, ka3]
    obtain ⟨f1', rfl⟩ : ∃ f, f1 = f + 1 := ⟨f1 - 1, by omega⟩
    by_cases c1 : i1 = n
    · have w := num_no (κ := va_up κ1 3 E1) (κ1 := κa) (τ := τ) (le := 0) (mo := 3000) (sa := sa1) (by rw [a3, c1]) ka3 ka2 ka4
      rw [← tkn2] at w
      refine bad sa1 (by rw [a3]; exact Int.natCast_nonneg _) (rp_bad6 (p5 := (nu1, va_up κ1 3 E1)) hκE e4 e5 (np sa1 i1 a3) w).1 ?_
      rw [ep_out hT0 (by rw [a3, c1])] at hEP
      rw [← hEP]
      exact if_neg (c := (1 : Int32) = 0) (t := (-1 : Int32)) (by decide)
    have hi1 : i1 < n := by omega
    have key2 := num_at (κ := va_up κ1 3 E1) (κ1 := κa) (le := 0) (mo := 3000) hT a3 hi1 ka3 ka2 ka4 (by decide) (by decide)
    rw [← tkn2] at key2
    rw [ep_in hT0 hn (k_up hk (by omega)) a3 hi1 (by omega), tk1] at hEP
    generalize S_X8_numberIn T sa1 (S_X8_afterToken T sa1) = nu2 at *
    generalize S_X8_afterToken T sa1 = E2 at *
    rcases key2 with ⟨y1, e6, j2, y3, y4, y5⟩ | ⟨y1, y2⟩
    rotate_left
    · refine bad sa1 (by rw [a3]; exact Int.natCast_nonneg _) (rp_bad6 (p5 := (nu1, va_up κ1 3 E1)) hκE e4 e5 (np sa1 i1 a3) y2).1 ?_
      rw [if_pos y1, if_pos rfl] at hEP
      rw [← hEP]
    have x2 : (if (1 : Int32) = 2 then (0 : Int32) else 1 + 1) = 2 := by decide
    rw [if_neg y1, if_neg (show ¬ (1 : Int32) = 0 by decide), x2, va_up_self] at hEP
    dsimp only at hEP
    obtain ⟨i2, o1, o2, o3, o4, o5, -⟩ := sp_at (κ := va_up κa 3 E2) hT y5 y4 (va_up_self _ _ _) (by rw [va_up_ne _ _ (by decide)]; exact ka2)
    rw [va_up_up] at o4
    generalize S_X8_afterSpaces T E2 = sa2 at *
    obtain ⟨κb, eκb⟩ : ∃ r, va_up κa 3 sa2 = r := ⟨_, rfl⟩
    rw [eκb] at o4
    have kb3 : κb 3 = sa2 := by rw [← eκb, va_up_self]
    have kb2 : (κb 2).toInt = n := by rw [← eκb, va_up_ne _ _ (by decide)]; exact ka2
    have kb4 : κb 4 = -100009 := by rw [← eκb, va_up_ne _ _ (by decide)]; exact ka4
    have here := her_at (τ := τ) kb2 (by rw [kb3]; exact o3)
    have rpe := fun (m9 : Int32) e9 => rp (m9 := m9) (p5 := (nu1, va_up κ1 3 E1)) (p6 := (nu2, va_up κa 3 E2)) e4 e5 e6 o4 e9
    have fin : ¬ S_X10_here κb τ = 59 → EP.1 = sa2 → ∃ κ2 σ2 : Nat → Int32, (∀ k, k ≠ 3 → k ≠ 4 → κ2 k = κ1 k) ∧ TI κ2 ∧ ((EP.1 = -1 ∧ L_X10_load_32 (f2 + 1) κ σ α β τ ω (S_X10_skip (S_X10_readPoint κ1 σ1 τ (ρ1 0)).1 τ) (S_X10_readPoint κ1 σ1 τ (ρ1 0)).2 α1 = L_X10_load_127 17 κ σ α β τ ω 0 κ2 σ2 α1 ω (σ2 32) ∧ RDP EP.2.1 EP.2.2 σ2 ∧ ∀ j, j < 32 ∨ 49 ≤ j → σ2 j = σ1 j) ∨ (¬ EP.1 = -1 ∧ L_X10_load_32 (f2 + 1) κ σ α β τ ω (S_X10_skip (S_X10_readPoint κ1 σ1 τ (ρ1 0)).1 τ) (S_X10_readPoint κ1 σ1 τ (ρ1 0)).2 α1 = (-200000 - EP.1, κ2, S_X10_release σ2 α1, α1, β, ω))) := fun q hE => by
      refine bad sa2 (by rw [o3]; exact Int.natCast_nonneg _) ?_ hE
      rw [rpe sa2 (by rw [if_pos kb4, if_neg q]; exact kb3)]
      dsimp only
      rw [va_up_ne _ _ (by decide), va_up_self]
    obtain ⟨f1'', rfl⟩ : ∃ f, f1' = f + 1 := ⟨f1' - 1, by omega⟩
    by_cases c2 : i2 = n
    · refine fin (by rw [here, if_neg (by omega)]; decide) ?_
      rw [ep_out hT0 (by rw [o3, c2])] at hEP
      rw [← hEP]
      exact if_neg (c := (2 : Int32) = 0) (t := (-1 : Int32)) (by decide)
    have hi2 : i2 < n := by omega
    rw [ep_in hT0 hn (k_up (k_up hk (by omega)) (by omega)) o3 hi2 (by omega), tk2, chr_at hT o3, if_pos hi2] at hEP
    rw [if_pos hi2] at here
    by_cases c59 : τ i2 = 59
    rotate_left
    · refine fin (by rw [here]; exact c59) ?_
      rw [if_neg c59, if_pos rfl] at hEP
      rw [← hEP]
    have x3 : (if (2 : Int32) = 2 then (0 : Int32) else 2 + 1) = 0 := by decide
    rw [if_pos c59, if_neg (show ¬ (1 : Int32) = 0 by decide), x3, tok_no hT o3 hi2 (by rw [c59]; decide)] at hEP
    dsimp only at hEP
    have rpf := rpe (-100009) (by rw [if_pos kb4, here, if_pos c59]; exact kb4)
    rw [if_pos rfl, va_up_id2 kb4, kb3, ← eκb, va_up_up, ← eκa, va_up_up] at rpf
    obtain ⟨i3, s1, s2, s3, s4, s5, -⟩ := sp_at (κ := va_up κ1 3 (sa2 + 1)) hT (k_up o3 (by omega)) (by omega) (va_up_self _ _ _) (by rw [va_up_ne _ _ (by decide)]; exact h2)
    rw [va_up_up] at s4
    rw [rpf]
    dsimp only
    rw [s4]
    generalize S_X8_afterSpaces T (sa2 + 1) = sa3 at *
    have bb1 := in_iff q2
    have bb2 := in_iff y1
    have z0 : (0 : Int32).toInt = 0 := rfl
    have z3000 : (3000 : Int32).toInt = 3000 := rfl
    rw [z0, z400] at bb1
    rw [z0, z3000] at bb2
    obtain ⟨R1, R2⟩ := RDP_ins (ti := nu1) (te := nu2) hR h8 ⟨nle q1, bb1.2⟩ bb2
    obtain ⟨κ2, σ2, k1, k2, k3⟩ := ih f1'' i3 (K + 3) sa3 (tk + 1 + 1 + 1) (va_up ρ1 0 nu1) (S_X6_set π1 8 nu1 nu2) (va_up κ1 3 sa3) (S_X10_insert_P σ1 nu1 nu2) (by omega) (by omega) s2 (by omega) s3 (k_up (k_up (k_up hk (by omega)) (by omega)) (by omega)) s5 (va_up_self _ _ _) (by rw [va_up_ne _ _ (by decide)]; exact h4) (by rw [va_up_ne _ _ (by decide)]; exact h2) ⟨hTI.1, hTI.2.1, by rw [va_up_self]; omega, by rw [va_up_self]; omega⟩ R1
    rw [hEP] at k3
    refine ⟨κ2, σ2, fun k a b => (k1 k a b).trans (va_up_ne _ _ a), k2, ?_⟩
    rcases k3 with ⟨u1, u2, u3, u4⟩ | ⟨u1, u2⟩
    · exact Or.inl ⟨u1, u2, u3, fun j hj => (u4 j hj).trans (R2 j hj)⟩
    · exact Or.inr ⟨u1, u2⟩
