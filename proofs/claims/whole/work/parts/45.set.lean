/-- the text alike -/
def TX (h : Hp) (κ τ : Nat → Int32) : Prop := ∃ n : Nat, n ≤ 100 ∧ (κ 2).toInt = n ∧ h 7 0 = κ 2 ∧ ∀ k, k < n → h 7 (1 + k) = τ k ∧ 1 ≤ (τ k).toInt ∧ (τ k).toInt ≤ 255
/-- class and reference alike after N calls -/
def CI (N : Nat) (h : Hp) (κ σ β τ : Nat → Int32) : Prop := SR N (h 2) (h 3) (h 4) (h 5) σ ∧ KS N h κ β ∧ TX h κ τ
theorem KS_congr {N : Nat} {h h' : Hp} {κ κ' β : Nat → Int32} (hh : ∀ g, 10 ≤ g → h' g = h g) (hk : κ' 1 = κ 1) (hH : KS N h κ β) : KS N h' κ' β := by
  obtain ⟨e1, n, o, en, hn5, eo, hoN, hK⟩ := hH
  refine ⟨by rw [hh 10 (by decide), hk]; exact e1, n, o, by rw [hk]; exact en, hn5, by rw [hh 10 (by decide)]; exact eo, hoN, fun i hi => ?_⟩
  have := hK i hi
  unfold SG at this ⊢
  rw [hh _ (by omega), hh _ (by omega), hh _ (by omega), hh _ (by omega)]
  exact this
theorem KS_mono {N : Nat} {h : Hp} {κ β : Nat → Int32} (hH : KS N h κ β) : KS (N + 1) h κ β := by
  obtain ⟨e1, n, o, en, hn5, eo, hoN, hK⟩ := hH
  exact ⟨e1, n, o, en, hn5, eo, by omega, fun i hi => SR_mono (hK i hi)⟩
theorem TX_congr {h h' : Hp} {κ κ' τ : Nat → Int32} (hh : h' 7 = h 7) (hk : κ' 2 = κ 2) (hT : TX h κ τ) : TX h' κ' τ := by
  unfold TX at *
  rw [hh, hk]
  exact hT
/-- a call that changes nothing but the model's thrown -/
theorem CI_none {N : Nat} {h : Hp} {κ κ' σ β τ : Nat → Int32} (h1 : κ' 1 = κ 1) (h2 : κ' 2 = κ 2) (hC : CI N h κ σ β τ) : CI (N + 1) h κ' σ β τ := ⟨SR_mono hC.1, KS_congr (fun _ _ => rfl) h1 (KS_mono hC.2.1), TX_congr rfl h2 hC.2.2⟩
/-- a call that remembers, then writes the state -/
theorem CI_act {N : Nat} {h h' : Hp} {κ σ σ' β τ : Nat → Int32} (hN : N ≤ 100000) (hC : CI N h κ σ β τ) (hS : SR (N + 1) (h' 2) (h' 3) (h' 4) (h' 5) σ') (hh : ∀ g, 5 < g → h' g = S_X1_remember h g) : CI (N + 1) h' (S_X10_act (va_up κ 0 0) σ β).1 σ' (S_X10_act (va_up κ 0 0) σ β).2 τ := by
  obtain ⟨a, b, c⟩ := remember_eq (κ := va_up κ 0 0) hN hC.1 (KS_congr (fun _ _ => rfl) rfl hC.2.1)
  refine ⟨hS, KS_congr (fun g hg => hh g (by omega)) rfl a, TX_congr (h := h) (κ := κ) ?_ ?_ hC.2.2⟩
  · rw [hh 7 (by decide), b 7 (by decide)]
  · rw [c 2 (by decide)]
    rfl
theorem rem_lo {N : Nat} {h : Hp} {κ σ β τ : Nat → Int32} (hN : N ≤ 100000) (hC : CI N h κ σ β τ) {g : Nat} (hg : g < 10) : S_X1_remember h g = h g := (remember_eq hN hC.1 hC.2.1).2.1 g hg
theorem CR_set {ρ π μ σ : Nat → Int32} {k : Nat} {v : Int32} (h : CR ρ π μ σ) (hk : k < 18 ∨ k = 19) (hT : TK (va_up σ k v)) (h1 : k = 1 → ¬ v = 0 → ¬ σ 1 = 0 := by intro e; exact absurd e (by decide)) : CR (va_up ρ k v) π μ (va_up σ k v) := by
  obtain ⟨hR, hW, hK, ⟨m, g, r⟩, ⟨m2, g2, r2⟩⟩ := h
  refine ⟨RA_up hR rfl h1, ⟨?_, ?_⟩, hT, ⟨m, GT_agree (fun j _ => va_up_ne _ _ (by omega)) g, fun j hj => by rw [va_up_ne _ _ (show 32 + j ≠ k by omega)]; exact r j hj⟩, ⟨m2, GT_agree (fun j _ => va_up_ne _ _ (by omega)) g2, fun j hj => by rw [va_up_ne _ _ (show 49 + j ≠ k by omega)]; exact r2 j hj⟩⟩
  · rw [va_up_ne _ _ (show 21 ≠ k by omega), va_up_ne _ _ (show 18 ≠ k by omega), va_up_ne _ _ (by omega)]
    exact hW.1
  · rw [va_up_ne _ _ (show 22 ≠ k by omega), va_up_ne _ _ (show 26 ≠ k by omega), va_up_ne _ _ (show 27 ≠ k by omega), va_up_ne _ _ (show 28 ≠ k by omega), va_up_ne _ _ (show 29 ≠ k by omega), va_up_ne _ _ (show 30 ≠ k by omega), va_up_ne _ _ (show 31 ≠ k by omega)]
    exact hW.2
theorem WS_set {M : Nat} {σ : Nat → Int32} {k : Nat} {v : Int32} (h : WS M σ) (h0 : k ≠ 0) (h1 : k ≠ 1) (h18 : k ≠ 18) (h62 : k < 62) (h6 : k = 6 → 0 ≤ v.toInt ∧ v.toInt ≤ 5) : WS M (va_up σ k v) := by
  obtain ⟨w1, w2, w3, w4, w5⟩ := h
  have w6 : 0 ≤ (va_up σ k v 6).toInt ∧ (va_up σ k v 6).toInt ≤ 5 := by
    by_cases e : k = 6
    · subst e
      rw [va_up_self]
      exact h6 rfl
    · rw [va_up_ne _ _ (Ne.symm e)]
      exact w1.2.2.2
  unfold WS
  rw [va_up_ne _ _ (show 0 ≠ k by omega), va_up_ne _ _ (show 1 ≠ k by omega), va_up_ne _ _ (show 18 ≠ k by omega), va_up_ne _ _ (show 62 ≠ k by omega), va_up_ne _ _ (show 63 ≠ k by omega)]
  exact ⟨⟨w1.1, w1.2.1, w1.2.2.1, w6⟩, w2, w3, w4, fun j hj => by rw [va_up_ne _ _ (show 64 + 6 * j ≠ k by omega)]; exact w5 j hj⟩
theorem SR_set {M : Nat} {ρ π μ ν σ : Nat → Int32} {k : Nat} {v : Int32} (h : SR M ρ π μ ν σ) (hk : 2 ≤ k ∧ k < 18 ∨ k = 19) (hT : TK (va_up σ k v)) (h6 : k = 6 → 0 ≤ v.toInt ∧ v.toInt ≤ 5 := by intro e; exact absurd e (by decide)) : SR M (va_up ρ k v) π μ ν (va_up σ k v) := ⟨CR_set h.1 (by omega) hT (fun e => absurd e (by omega)), fun j hj => by rw [va_up_ne _ _ (show 62 + j ≠ k by omega)]; exact h.2.1 j hj, WS_set h.2.2 (by omega) (by omega) (by omega) (by omega) h6⟩
theorem in_eq (a b c : Int32) : S_X9_inRange a b c = S_X10_in a b c := rfl
theorem in_iff {a b c : Int32} (h : ¬ S_X10_in a b c = 0) : b.toInt ≤ a.toInt ∧ a.toInt ≤ c.toInt := by
  unfold S_X10_in at h
  by_cases d : a < b
  · rw [if_pos d] at h
    exact absurd rfl h
  · rw [if_neg d] at h
    by_cases e : c < a
    · rw [if_pos e] at h
      exact absurd rfl h
    · exact ⟨nlt d, nlt e⟩
theorem CI_pack {N : Nat} {h : Hp} {κ σ β τ : Nat → Int32} (hN : N ≤ 100000) (hC : CI N h κ σ β τ) : ∃ (R : Hp) (A : (Nat → Int32) × (Nat → Int32)), S_X1_remember h = R ∧ S_X10_act (va_up κ 0 0) σ β = A ∧ (∀ g, g < 10 → R g = h g) ∧ ∀ (h' : Hp) (σ' : Nat → Int32), SR (N + 1) (h' 2) (h' 3) (h' 4) (h' 5) σ' → (∀ g, 5 < g → h' g = R g) → CI (N + 1) h' A.1 σ' A.2 τ :=
  ⟨S_X1_remember h, S_X10_act (va_up κ 0 0) σ β, rfl, rfl, fun _ hg => rem_lo hN hC hg, fun _ _ hS hh => CI_act hN hC hS hh⟩
theorem CI.rows {N : Nat} {h : Hp} {κ σ β τ : Nat → Int32} (hC : CI N h κ σ β τ) {k : Nat} (h1 : k < 32) (h2 : k ≠ 21) (h3 : k ≠ 22 ∧ k ≠ 23 ∧ k ≠ 24) : h 2 k = σ k := hC.1.1.1.at h1 h2 h3
/-- a new roaster row after remembering -/
theorem SR_new {N : Nat} {h R : Hp} {κ σ β τ ρ' σ' : Nat → Int32} (hC : CI N h κ σ β τ) (rl : ∀ g, g < 10 → R g = h g) (hS : SR (N + 1) (h 2) (h 3) (h 4) (h 5) σ → SR (N + 1) ρ' (h 3) (h 4) (h 5) σ') : SR (N + 1) (va_up R 2 ρ' 2) (va_up R 2 ρ' 3) (va_up R 2 ρ' 4) (va_up R 2 ρ' 5) σ' := by
  rw [va_up_self, va_up_ne _ _ (show 3 ≠ 2 by decide), va_up_ne _ _ (show 4 ≠ 2 by decide), va_up_ne _ _ (show 5 ≠ 2 by decide), rl 3 (by decide), rl 4 (by decide), rl 5 (by decide)]
  exact hS (SR_mono hC.1)
theorem setPower_eq {N : Nat} {h : Hp} {κ σ β τ : Nat → Int32} (hN : N ≤ 100000) (hC : CI N h κ σ β τ) (po : Int32) : (S_X9_setPower h po).1 = (S_X10_setPower κ σ β po).1 ∧ CI (N + 1) (S_X9_setPower h po).2 (S_X10_setPower κ σ β po).2.1 (S_X10_setPower κ σ β po).2.2.1 (S_X10_setPower κ σ β po).2.2.2 τ := by
  obtain ⟨R, A, eR, eA, rl, q⟩ := CI_pack hN hC
  unfold S_X9_setPower S_X10_setPower S_X10_put
  rw [in_eq, eR]
  dsimp only
  rw [eA]
  clear eR eA
  by_cases c : S_X10_in po 0 100 = 0
  · rw [if_pos c, if_pos c]
    exact ⟨rfl, CI_none rfl rfl hC⟩
  · rw [if_neg c, if_neg c]
    show R 2 7 = σ 7 ∧ CI (N + 1) (va_up R 2 (va_up (R 2) 7 po)) A.1 (va_up σ 7 po) A.2 τ
    refine ⟨?_, q _ _ (SR_new hC rl (fun hS => ?_)) (fun g hg => va_up_ne _ _ (by omega))⟩
    · rw [rl 2 (by decide)]
      exact hC.rows (by decide) (by decide) (by simp)
    · rw [rl 2 (by decide)]
      refine SR_set hS (by decide) ?_
      obtain ⟨k1, k2, k3, k4, k5, k6, k7, k8, k9, k10⟩ := hC.1.1.2.2.1
      exact ⟨k1, in_iff c, k3, k4, k5, k6, k7, k8, k9, k10⟩
