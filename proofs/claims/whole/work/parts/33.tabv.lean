theorem nn_i {x : Int32} {K : Nat} (h : x.toInt = K) : 0 ≤ x := Int32.le_iff_toInt_le.mpr (by rw [h]; show (0 : Int) ≤ K; omega)
theorem not_nn {x : Int32} (h : x.toInt = -1) : ¬ 0 ≤ x := fun c => by
  have := Int32.le_iff_toInt_le.mp c
  rw [h] at this
  exact absurd this (by decide)
theorem dn_0 {b : Int32} (hb : 0 < b.toInt) : S_X10_down 0 b = 0 := Int32.toInt_inj.mp (by
  rw [dn32 hb]
  show (0 : Int) / b.toInt = 0
  exact Int.zero_ediv _)
theorem ml_0 (a : Int32) : a * 0 = 0 := Int32.mul_zero
theorem sb_0 (a : Int32) : a - a = 0 := Int32.sub_self a
theorem df_pos {a b : Int32} (h : a.toInt < b.toInt) (h1 : 0 ≤ a.toInt) : 0 < (b - a).toInt := by
  have := Int32.toInt_lt b
  rw [tsu (by omega) (by omega)]
  omega
/-- the class's line, by its place -/
theorem line_pt {ρ : Nat → Int32} {n m p : Nat} {key : Int32} (T : TB ρ n m) (hn : n ≤ 1000) (h0 : 0 < m) (hk : ∀ j, j < m → 0 ≤ (ρ (1 + 2 * j)).toInt) (hp : IP (fun j => (ρ (1 + 2 * j)).toInt) m key.toInt p) : S_X6_valueOnLine ρ n key = if p < m ∧ ρ (1 + 2 * p) = key then ρ (2 + 2 * p) else if p = 0 then ρ 2 else if p = m then ρ (2 * m) else ρ (2 * p) + S_X10_down ((ρ (2 * p + 2) - ρ (2 * p)) * (key - ρ (2 * p - 1))) (ρ (2 * p + 1) - ρ (2 * p - 1)) := by
  have e := below_pt T hn hp
  have hl := T.2.1
  have hpm := hp.1
  obtain ⟨m', rfl⟩ : ∃ m', m = m' + 1 := ⟨m - 1, by omega⟩
  have hs := T.1
  have es := (k_dn hs (by omega)).1
  have hA := T.2.2
  unfold S_X6_valueOnLine
  generalize S_X6_indexBelow ρ n key = b at e ⊢
  have core : ∀ K : Nat, b.toInt = K → K + 1 < m' + 1 → (if b < ρ 0 - 1 then S_at ρ 2 2 n b + Int64.toInt32 (S_X9_quotient (Int32.toInt64 ((S_at ρ 2 2 n (b + 1) - S_at ρ 2 2 n b) * (key - S_at ρ 1 2 n b))) (Int32.toInt64 (S_at ρ 1 2 n (b + 1) - S_at ρ 1 2 n b))) else S_at ρ 2 2 n b) = ρ (2 + 2 * K) + S_X10_down ((ρ (2 + 2 * (K + 1)) - ρ (2 + 2 * K)) * (key - ρ (1 + 2 * K))) (ρ (1 + 2 * (K + 1)) - ρ (1 + 2 * K)) := fun K hb hK => by
    have hb1 := k_up hb (by omega)
    rw [if_pos (Int32.lt_iff_toInt_lt.mpr (by rw [hb, es]; omega)), S_at_in hb (by omega) hn, S_at_in hb (by omega) hn, S_at_in hb1 (by omega) hn, S_at_in hb1 (by omega) hn]
    rw [quo32 (df_pos (hA K hK) (hk K (by omega)))]
  have last : b.toInt = (m' : Nat) → (if b < ρ 0 - 1 then S_at ρ 2 2 n b + Int64.toInt32 (S_X9_quotient (Int32.toInt64 ((S_at ρ 2 2 n (b + 1) - S_at ρ 2 2 n b) * (key - S_at ρ 1 2 n b))) (Int32.toInt64 (S_at ρ 1 2 n (b + 1) - S_at ρ 1 2 n b))) else S_at ρ 2 2 n b) = ρ (2 + 2 * m') := fun hb => by
    rw [if_neg (fun c => by have := Int32.lt_iff_toInt_lt.mp c; rw [hb, es] at this; exact absurd this (Int.lt_irrefl _)), S_at_in hb (by omega) hn]
  by_cases c : p < m' + 1 ∧ ρ (1 + 2 * p) = key
  · rw [if_pos c] at e ⊢
    rw [if_pos (nn_i e)]
    by_cases d : p = m'
    · subst d
      exact last e
    · rw [core p e (by omega), c.2, sb_0, ml_0, dn_0, Int32.add_zero]
      have h1 := hA p (by omega)
      have h2 := hk p (by omega)
      dsimp only at h1
      rw [c.2] at h1 h2
      exact df_pos h1 h2
  · rw [if_neg c] at e ⊢
    cases p with
    | zero =>
      rw [if_neg (not_nn e), if_pos rfl, S_at_in (K := 0) rfl (by omega) hn]
    | succ q =>
      have e2 : b.toInt = (q : Int) := by rw [e]; omega
      rw [if_pos (nn_i e2), if_neg (show ¬ q + 1 = 0 by omega)]
      by_cases d : q + 1 = m' + 1
      · rw [if_pos d]
        have d2 : q = m' := by omega
        subst d2
        rw [last e2]
        congr 1
        omega
      · rw [if_neg d, core q e2 (by omega)]
        have i1 : 2 + 2 * q = 2 * (q + 1) := by omega
        have i2 : 2 + 2 * (q + 1) = 2 * (q + 1) + 2 := by omega
        have i3 : 1 + 2 * q = 2 * (q + 1) - 1 := by omega
        have i4 : 1 + 2 * (q + 1) = 2 * (q + 1) + 1 := by omega
        rw [i2, i1, i3, i4]
/-- the reference's line, by its place -/
theorem target_pt {σ : Nat → Int32} {m p : Nat} {ti : Int32} (em : (σ 32).toInt = m) (hm : m ≤ 8) (hp : IP (fun j => (σ (33 + 2 * j)).toInt) m ti.toInt p) : S_X10_targetAt σ ti = if m = 0 then (-100009) else if p < m ∧ σ (33 + 2 * p) = ti then σ (34 + 2 * p) else if p = 0 then σ 34 else if p = m then σ (32 + 2 * m) else σ (32 + 2 * p) + S_X10_down ((σ (34 + 2 * p) - σ (32 + 2 * p)) * (ti - σ (31 + 2 * p))) (σ (33 + 2 * p) - σ (31 + 2 * p)) := by
  obtain ⟨P, e, hP⟩ := place_ip (σ := σ) (li := 33) (ma := σ 32) (ke := ti) (L := 33) rfl (by decide) em hm
  have q := IP_uniq hP hp
  subst q
  have a := isAt_pt (σ := σ) (li := 33) (ke := ti) (L := 33) rfl (by decide) em hm e hP.1
  have hpm := hp.1
  unfold S_X10_targetAt
  rw [a]
  clear a
  generalize S_X10_place σ 33 (σ 32) ti = Q at *
  by_cases h0 : m = 0
  · rw [if_pos h0, if_pos (Int32.toInt_inj.mp (by rw [em, h0]; rfl))]
  · rw [if_neg h0, if_neg (fun c => h0 (by have := congrArg Int32.toInt c; rw [em] at this; have z : (0 : Int32).toInt = 0 := rfl; omega))]
    obtain ⟨_, n1, n2⟩ := ins_ix (li := 33) (L := 33) (by decide) rfl e (by omega)
    by_cases c : P < m ∧ σ (33 + 2 * P) = ti
    · rw [if_pos c, if_neg (by decide), if_pos c, n2]
      congr 1
      omega
    · rw [if_neg c, if_pos rfl, if_neg c]
      by_cases hz : P = 0
      · rw [if_pos hz, if_pos (Int32.toInt_inj.mp (by rw [e, hz]; rfl)), n2, hz]
      · rw [if_neg hz, if_neg (fun c => hz (by have := congrArg Int32.toInt c; rw [e] at this; have z : (0 : Int32).toInt = 0 := rfl; omega))]
        obtain ⟨f1, f2, f3, f4⟩ := e_last (li := 33) (p := Q) ⟨by decide, by decide⟩ ⟨by omega, by omega⟩
        have z33 : (33 : Int32).toInt = 33 := rfl
        rw [z33, e] at f1 f2 f3 f4
        have g1 := i_eq (K := 31 + 2 * P) (by rw [f1]; omega)
        have g2 := i_eq (K := 32 + 2 * P) (by rw [f2]; omega)
        have g3 := i_eq (K := 33 + 2 * P) (by rw [f3]; omega)
        have g4 := i_eq (K := 34 + 2 * P) (by rw [f4]; omega)
        rw [g1, g2, g3, g4]
        by_cases hx : P = m
        · rw [if_pos hx, if_pos (Int32.toInt_inj.mp (by rw [e, em, hx])), hx]
        · rw [if_neg hx, if_neg (fun c => hx (by have := congrArg Int32.toInt c; rw [e, em] at this; omega))]
theorem line_eq {ρ σ : Nat → Int32} {n m : Nat} {key : Int32} (T : TB ρ n m) (hn : n ≤ 1000) (hm : m ≤ 8) (h0 : 0 < m) (hk : ∀ j, j < m → 0 ≤ (ρ (1 + 2 * j)).toInt) (hr : ∀ j, j ≤ 2 * m → ρ j = σ (32 + j)) : S_X6_valueOnLine ρ n key = S_X10_targetAt σ key := by
  obtain ⟨P, e, hP⟩ := place_ip (σ := σ) (li := 33) (ma := σ 32) (ke := key) (L := 33) rfl (by decide) (by rw [← T.1]; exact congrArg Int32.toInt (hr 0 (by omega)).symm) hm
  have hP2 : IP (fun j => (ρ (1 + 2 * j)).toInt) m key.toInt P := IP_congr (fun j hj => by
    rw [hr (1 + 2 * j) (by omega)]
    congr 2
    omega) hP
  clear e
  have hpm := hP.1
  rw [line_pt T hn h0 hk hP2, target_pt (by rw [← T.1]; exact congrArg Int32.toInt (hr 0 (by omega)).symm) hm hP, if_neg (show ¬ m = 0 by omega)]
  have cc : (P < m ∧ ρ (1 + 2 * P) = key) ↔ (P < m ∧ σ (33 + 2 * P) = key) := by
    constructor
    · intro ⟨h1, h2⟩
      rw [hr (1 + 2 * P) (by omega), show 32 + (1 + 2 * P) = 33 + 2 * P by omega] at h2
      exact ⟨h1, h2⟩
    · intro ⟨h1, h2⟩
      rw [hr (1 + 2 * P) (by omega), show 32 + (1 + 2 * P) = 33 + 2 * P by omega]
      exact ⟨h1, h2⟩
  by_cases c : P < m ∧ σ (33 + 2 * P) = key
  · rw [if_pos (cc.mpr c), if_pos c, hr (2 + 2 * P) (by omega)]
    congr 1
    omega
  · rw [if_neg (fun q => c (cc.mp q)), if_neg c]
    by_cases z : P = 0
    · rw [if_pos z, if_pos z, hr 2 (by omega)]
    · rw [if_neg z, if_neg z]
      by_cases w : P = m
      · rw [if_pos w, if_pos w, hr (2 * m) (by omega)]
      · rw [if_neg w, if_neg w, hr (2 * P) (by omega), hr (2 * P + 2) (by omega), hr (2 * P + 1) (by omega), show 32 + (2 * P + 2) = 34 + 2 * P by omega, show 32 + (2 * P + 1) = 33 + 2 * P by omega, hr (2 * P - 1) (by omega), show 32 + (2 * P - 1) = 31 + 2 * P by omega]
theorem below_eq {ρ σ : Nat → Int32} {n m : Nat} {key : Int32} (es : (ρ 0).toInt = m) (hmn : m ≤ n) (hn : n ≤ 1000) (hm : m ≤ 8) (hk : key.toInt ≤ 100000) (hk0 : -100000 ≤ key.toInt) (hr : ∀ j, j ≤ 2 * m → ρ j = σ (49 + j)) : S_X6_valueBelow ρ n key = S_X10_rateAt σ key := by
  have es2 : (σ 49).toInt = m := by rw [← es]; exact congrArg Int32.toInt (hr 0 (by omega)).symm
  obtain ⟨P, e, hP⟩ := place_ip (σ := σ) (li := 50) (ma := σ 49) (ke := key + 1) (L := 50) rfl (by decide) es2 hm
  obtain ⟨Q, e2, hQ⟩ := below_ip (key := key) es hmn hn
  have e3 : (key + 1).toInt = key.toInt + 1 := ta (b := 1) (by show -2147483648 ≤ key.toInt + 1; omega) (by show key.toInt + 1 < 2147483648; omega)
  rw [e3] at hP
  have hP2 : IP (fun j => (ρ (1 + 2 * j)).toInt) m (key.toInt + 1) P := IP_congr (fun j hj => by
    rw [hr (1 + 2 * j) (by omega)]
    congr 2
    omega) hP
  have q := IP_uniq hQ hP2
  subst q
  have hpm := hQ.1
  clear hP hP2 hQ e3
  unfold S_X6_valueBelow S_X10_rateAt
  generalize S_X10_place σ 50 (σ 49) (key + 1) = A at *
  generalize S_X6_indexBelow ρ n key = B at *
  cases Q with
  | zero => rw [if_neg (not_nn e2), if_pos (Int32.toInt_inj.mp (by rw [e]; rfl))]
  | succ q =>
    have e4 : B.toInt = (q : Int) := by rw [e2]; omega
    rw [if_pos (nn_i e4), S_at_in e4 (by omega) hn, if_neg (fun c => by have := congrArg Int32.toInt c; rw [e] at this; have z : (0 : Int32).toInt = 0 := rfl; omega)]
    have f := (ins_ix (li := 50) (L := 50) (by decide) rfl e (by omega)).1.1
    have g : (50 + 2 * A - 1).toInt = ((51 + 2 * q : Nat) : Int) := by
      rw [tsu (b := 1) (by rw [f]; show -2147483648 ≤ (50 : Int) + 2 * ((q + 1 : Nat) : Int) - 1; omega) (by rw [f]; show (50 : Int) + 2 * ((q + 1 : Nat) : Int) - 1 < 2147483648; omega), f]
      show (50 : Int) + 2 * ((q + 1 : Nat) : Int) - 1 = _
      omega
    rw [i_eq g, hr (2 + 2 * q) (by omega)]
    congr 1
    omega
