/-- readPoint, told by its steps -/
theorem rp {κ σ τ r4 r7 : Nat → Int32} {be m9 : Int32} {p5 p6 : Int32 × (Nat → Int32)} (e4 : va_up κ 4 (if σ 32 = 8 then κ 3 else κ 4) = r4) (e5 : S_X10_takeNumber r4 τ (be + 1) 400 = p5) (e6 : S_X10_takeNumber p5.2 τ 0 3000 = p6) (e7 : S_X10_skip p6.2 τ = r7) (e9 : (if r7 4 = -100009 then (if S_X10_here r7 τ = 59 then r7 4 else r7 3) else r7 4) = m9) : S_X10_readPoint κ σ τ be = (va_up (va_up r7 4 m9) 3 (r7 3 + 1), if m9 = -100009 then S_X10_insert_P σ p5.1 p6.1 else σ) := by
  have a4 : T_X10_readPoint_r4 κ σ τ be = r4 := e4
  have a5 : S_X10_takeNumber (T_X10_readPoint_r4 κ σ τ be) τ (be + 1) 400 = p5 := by rw [a4]; exact e5
  have b5 : T_X10_readPoint_r5 κ σ τ be = p5.2 := by unfold T_X10_readPoint_r5; rw [a5]
  have a6 : S_X10_takeNumber (T_X10_readPoint_r5 κ σ τ be) τ 0 3000 = p6 := by rw [b5]; exact e6
  have b6 : T_X10_readPoint_r6 κ σ τ be = p6.2 := by unfold T_X10_readPoint_r6; rw [a6]
  have b7 : T_X10_readPoint_r7 κ σ τ be = r7 := by unfold T_X10_readPoint_r7; rw [b6]; exact e7
  have b9 : T_X10_readPoint_m9 κ σ τ be = m9 := by unfold T_X10_readPoint_m9; rw [b7]; exact e9
  have b12 : T_X10_readPoint_r12 κ σ τ be = va_up r7 4 m9 := by unfold T_X10_readPoint_r12; rw [b7, b9]
  have b13 : T_X10_readPoint_r13 κ σ τ be = va_up (va_up r7 4 m9) 3 (r7 3 + 1) := by
    unfold T_X10_readPoint_r13
    rw [b12, va_up_ne _ _ (show (3 : Nat) ≠ 4 by decide)]
  have c4 : va_up (va_up r7 4 m9) 3 (r7 3 + 1) 4 = m9 := by rw [va_up_ne _ _ (by decide), va_up_self]
  have b15 : T_X10_readPoint_m15 κ σ τ be = if m9 = -100009 then S_X10_insert_P σ p5.1 p6.1 else σ := by
    unfold T_X10_readPoint_m15
    rw [a5, a6, b13, c4]
  unfold S_X10_readPoint
  rw [b13, b15]
/-- a wrong place stays -/
theorem rp_bad5 {κ σ τ r4 : Nat → Int32} {be P : Int32} (hN : TI κ) (e4 : va_up κ 4 (if σ 32 = 8 then κ 3 else κ 4) = r4) (hP : ¬ P = -100009) (h : r4 4 = P ∨ (S_X10_takeNumber r4 τ (be + 1) 400).2 4 = P) : (S_X10_readPoint κ σ τ be).1 4 = P ∧ (S_X10_readPoint κ σ τ be).2 = σ := by
  have i4 : TI r4 := by rw [← e4]; exact TI_w4 hN
  have i5 := TI_X10_takeNumber (τ := τ) (le := be + 1) (mo := 400) i4
  have w5 : (S_X10_takeNumber r4 τ (be + 1) 400).2 4 = P := by
    rcases h with h | h
    · rw [take_w i4 (by rw [h]; exact hP), h]
    · exact h
  obtain ⟨p5, e5⟩ : ∃ p, S_X10_takeNumber r4 τ (be + 1) 400 = p := ⟨_, rfl⟩
  rw [e5] at i5 w5
  have w6 := take_w (τ := τ) (le := 0) (mo := 3000) i5 (by rw [w5]; exact hP)
  have i6 := TI_X10_takeNumber (τ := τ) (le := 0) (mo := 3000) i5
  obtain ⟨p6, e6⟩ : ∃ p, S_X10_takeNumber p5.2 τ 0 3000 = p := ⟨_, rfl⟩
  rw [e6] at i6 w6
  have w7 := skip_ne (τ := τ) i6 (k := 4) (by decide)
  obtain ⟨r7, e7⟩ : ∃ p, S_X10_skip p6.2 τ = p := ⟨_, rfl⟩
  rw [e7, w6, w5] at w7
  rw [rp e4 e5 e6 e7 rfl, w7, if_neg hP, if_neg hP]
  refine ⟨?_, rfl⟩
  dsimp only
  rw [va_up_ne _ _ (by decide), va_up_self]
theorem rp_bad6 {κ σ τ r4 : Nat → Int32} {be P : Int32} {p5 : Int32 × (Nat → Int32)} (i5 : TI p5.2) (e4 : va_up κ 4 (if σ 32 = 8 then κ 3 else κ 4) = r4) (e5 : S_X10_takeNumber r4 τ (be + 1) 400 = p5) (hP : ¬ P = -100009) (w6 : (S_X10_takeNumber p5.2 τ 0 3000).2 4 = P) : (S_X10_readPoint κ σ τ be).1 4 = P ∧ (S_X10_readPoint κ σ τ be).2 = σ := by
  have i6 := TI_X10_takeNumber (τ := τ) (le := 0) (mo := 3000) i5
  obtain ⟨p6, e6⟩ : ∃ p, S_X10_takeNumber p5.2 τ 0 3000 = p := ⟨_, rfl⟩
  rw [e6] at i6 w6
  have w7 := skip_ne (τ := τ) i6 (k := 4) (by decide)
  obtain ⟨r7, e7⟩ : ∃ p, S_X10_skip p6.2 τ = p := ⟨_, rfl⟩
  rw [e7, w6] at w7
  rw [rp e4 e5 e6 e7 rfl, w7, if_neg hP, if_neg hP]
  refine ⟨?_, rfl⟩
  dsimp only
  rw [va_up_ne _ _ (by decide), va_up_self]
/-- readPoint's frame -/
theorem rp_k {κ σ τ : Nat → Int32} {be : Int32} (hN : TI κ) {k : Nat} (h3 : k ≠ 3) (h4 : k ≠ 4) : (S_X10_readPoint κ σ τ be).1 k = κ k := by
  obtain ⟨r4, e4⟩ : ∃ r, va_up κ 4 (if σ 32 = 8 then κ 3 else κ 4) = r := ⟨_, rfl⟩
  have i4 : TI r4 := by rw [← e4]; exact TI_w4 hN
  have s4 : SK κ r4 := by rw [← e4]; exact SK.w4 _
  have i5 := TI_X10_takeNumber (τ := τ) (le := be + 1) (mo := 400) i4
  have s5 := s4.tr (take_SK (τ := τ) (le := be + 1) (mo := 400) i4)
  obtain ⟨p5, e5⟩ : ∃ p, S_X10_takeNumber r4 τ (be + 1) 400 = p := ⟨_, rfl⟩
  rw [e5] at i5 s5
  have i6 := TI_X10_takeNumber (τ := τ) (le := 0) (mo := 3000) i5
  have s6 := s5.tr (take_SK (τ := τ) (le := 0) (mo := 3000) i5)
  obtain ⟨p6, e6⟩ : ∃ p, S_X10_takeNumber p5.2 τ 0 3000 = p := ⟨_, rfl⟩
  rw [e6] at i6 s6
  have s7 := s6.tr (skip_SK (τ := τ) i6)
  obtain ⟨r7, e7⟩ : ∃ p, S_X10_skip p6.2 τ = p := ⟨_, rfl⟩
  rw [e7] at s7
  rw [rp e4 e5 e6 e7 rfl]
  dsimp only
  rw [va_up_ne _ _ h3, va_up_ne _ _ h4]
  exact s7.1 k h3 h4
/-- the reader's profile alike, and the last tick -/
def RDP (ρ1 π1 σ1 : Nat → Int32) : Prop := ∃ m, GT (fun j => σ1 (32 + j)) 8 m 400 0 3000 ∧ (∀ j, j ≤ 2 * m → π1 j = σ1 (32 + j)) ∧ if m = 0 then ρ1 0 = -1 else ρ1 0 = σ1 (31 + 2 * m)
theorem RDP_be {ρ1 π1 σ1 : Nat → Int32} (h : RDP ρ1 π1 σ1) : (if σ1 32 = 0 then (-1 : Int32) else σ1 (Int32.toNatClampNeg ((33 + 2 * σ1 32) - 2))) = ρ1 0 ∧ -1 ≤ (ρ1 0).toInt ∧ (ρ1 0).toInt ≤ 400 := by
  obtain ⟨m, g, r, l⟩ := h
  have em : (σ1 32).toInt = m := g.1
  have hm := g.2.1
  cases m with
  | zero =>
    rw [if_pos rfl] at l
    rw [if_pos (show σ1 32 = 0 from Int32.toInt_inj.mp (by rw [em]; rfl)), l]
    exact ⟨rfl, by decide, by decide⟩
  | succ m =>
    rw [if_neg (by omega)] at l
    have f := (ins_ix (li := 33) (L := 33) (by decide) rfl em (by omega)).1.1
    have e : (33 + 2 * σ1 32 - 2).toInt = ((31 + 2 * (m + 1) : Nat) : Int) := by
      rw [tsu (b := 2) (by rw [f]; show -2147483648 ≤ (33 : Int) + 2 * ((m + 1 : Nat) : Int) - 2; omega) (by rw [f]; show (33 : Int) + 2 * ((m + 1 : Nat) : Int) - 2 < 2147483648; omega), f]
      show (33 : Int) + 2 * ((m + 1 : Nat) : Int) - 2 = _
      omega
    rw [if_neg (show ¬ σ1 32 = 0 from fun q => by rw [q] at em; have : (0 : Int32).toInt = 0 := rfl; omega), i_eq e, l]
    have b := g.2.2.2.1 m (by omega)
    dsimp only at b
    rw [show 31 + 2 * (m + 1) = 32 + (1 + 2 * m) by omega]
    exact ⟨rfl, by omega, by omega⟩
/-- a point taken over -/
theorem RDP_ins {ρ1 π1 σ1 : Nat → Int32} {ti te : Int32} (h : RDP ρ1 π1 σ1) (h8 : ¬ σ1 32 = 8) (hti : (ρ1 0).toInt < ti.toInt ∧ ti.toInt ≤ 400) (hte : 0 ≤ te.toInt ∧ te.toInt ≤ 3000) : RDP (va_up ρ1 0 ti) (S_X6_set π1 8 ti te) (S_X10_insert_P σ1 ti te) ∧ ∀ j, j < 32 ∨ 49 ≤ j → S_X10_insert_P σ1 ti te j = σ1 j := by
  have hb := (RDP_be h).2
  obtain ⟨m, g, r, l⟩ := h
  have em : (σ1 32).toInt = m := g.1
  have hm := g.2.1
  have hm8 : m < 8 := by
    rcases Nat.lt_or_ge m 8 with q | q
    · exact q
    · exact absurd (Int32.toInt_inj.mp (by rw [em, show m = 8 by omega]; rfl)) h8
  obtain ⟨p1, p2⟩ := prof_set (te := te) g r ⟨show 0 ≤ ti.toInt by omega, hti.2⟩ hte
  obtain ⟨far, m2, g2, r2⟩ := p2 (fun q => h8 (p1.mp q).2)
  have hIP : IP (fun j => (σ1 (33 + 2 * j)).toInt) m ti.toInt m := by
    refine ⟨Nat.le_refl _, fun j hj => ?_, fun q => absurd q (Nat.lt_irrefl _)⟩
    dsimp only
    obtain ⟨m', rfl⟩ : ∃ m', m = m' + 1 := ⟨m - 1, by omega⟩
    rw [if_neg (by omega)] at l
    have i1 : ∀ j, 32 + (1 + 2 * j) = 33 + 2 * j := fun j => by omega
    have hl : (σ1 (33 + 2 * m')).toInt < ti.toInt := by
      rw [show 33 + 2 * m' = 31 + 2 * (m' + 1) by omega, ← l]
      exact hti.1
    by_cases e : j = m'
    · rw [e]; exact hl
    · have := ASC_lt' g.2.2.1 (i := j) (j := m') (by omega) (by omega)
      dsimp only at this
      rw [i1, i1] at this
      omega
  obtain ⟨ip, -⟩ := insP_pt (va := te) em hm hIP
  have s32 : S_X10_insert_P σ1 ti te 32 = σ1 32 + 1 := by
    have := ip 0
    rw [INS_0, if_neg (fun q => Nat.lt_irrefl _ q.1)] at this
    exact this
  have em2 : (σ1 32 + 1).toInt = ((m + 1 : Nat) : Int) := k_up em (by omega)
  have e2 : m2 = m + 1 := by
    have := g2.1
    dsimp only at this
    rw [show 32 + 0 = 32 by rfl, s32, em2] at this
    omega
  subst e2
  refine ⟨⟨m + 1, g2, r2, ?_⟩, far⟩
  rw [if_neg (by omega), va_up_self, show 31 + 2 * (m + 1) = 32 + (1 + 2 * m) by omega, ip, INS_key, if_pos rfl]
/-- one token of the class's reader -/
theorem ep_in {ρ π T ρ1 π1 : Nat → Int32} {ex sa tk : Int32} {fu K n i : Nat} (hT0 : (T 0).toInt = n) (hn : n ≤ 100) (hk : tk.toInt = K) (hs : sa.toInt = i) (hi : i < n) (hK : K ≤ i) : L_X3_errorPosition_24 (fu + 1) ρ π T ex sa tk ρ1 π1 = if (S_X3_takes ρ1 π1 T ex sa (S_X8_afterToken T sa)).1 = 0 then (sa, (S_X3_takes ρ1 π1 T ex sa (S_X8_afterToken T sa)).2.1, (S_X3_takes ρ1 π1 T ex sa (S_X8_afterToken T sa)).2.2) else L_X3_errorPosition_24 fu ρ π T (if ex = 2 then 0 else ex + 1) (S_X8_afterSpaces T (S_X8_afterToken T sa)) (tk + 1) (S_X3_takes ρ1 π1 T ex sa (S_X8_afterToken T sa)).2.1 (S_X3_takes ρ1 π1 T ex sa (S_X8_afterToken T sa)).2.2 := by
  have z : (100 : Int32).toInt = 100 := rfl
  conv => lhs; unfold L_X3_errorPosition_24
  rw [if_neg (show ¬ 100 ≤ tk from fun q => by have := Int32.le_iff_toInt_le.mp q; omega), if_neg (show ¬ T 0 ≤ sa from fun q => by have := Int32.le_iff_toInt_le.mp q; omega)]
theorem ep_out {ρ π T ρ1 π1 : Nat → Int32} {ex sa tk : Int32} {fu n : Nat} (hT0 : (T 0).toInt = n) (hs : sa.toInt = n) : L_X3_errorPosition_24 (fu + 1) ρ π T ex sa tk ρ1 π1 = (if ex = 0 then -1 else sa, ρ1, π1) := by
  have e : T 0 = sa := Int32.toInt_inj.mp (by rw [hT0, hs])
  unfold L_X3_errorPosition_24
  rw [e, if_pos (Int32.le_refl _), ite_self]
theorem tk0 {ρ1 π1 T : Nat → Int32} {sa en : Int32} : S_X3_takes ρ1 π1 T 0 sa en = if 8 ≤ π1 0 then (0, ρ1, π1) else if S_X8_numberIn T sa en ≤ ρ1 0 then (0, ρ1, π1) else if S_X10_in (S_X8_numberIn T sa en) 0 400 = 0 then (0, ρ1, π1) else (1, va_up ρ1 0 (S_X8_numberIn T sa en), π1) := by
  unfold S_X3_takes S_X3_takesTick
  rw [if_pos rfl, in_eq]
  generalize S_X8_numberIn T sa en = nu
  dsimp only
  repeat' split
  all_goals rfl
theorem tk1 {ρ1 π1 T : Nat → Int32} {sa en : Int32} : S_X3_takes ρ1 π1 T 1 sa en = if S_X10_in (S_X8_numberIn T sa en) 0 3000 = 0 then (0, ρ1, π1) else (1, ρ1, S_X6_set π1 8 (ρ1 0) (S_X8_numberIn T sa en)) := by
  unfold S_X3_takes S_X3_takesTemperature
  rw [if_neg (by decide), if_pos rfl, in_eq]
  generalize S_X8_numberIn T sa en = nu
  by_cases c : S_X10_in nu 0 3000 = 0
  · rw [if_pos c, if_pos c]
  · rw [if_neg c, if_neg c]
theorem tk2 {ρ1 π1 T : Nat → Int32} {sa en : Int32} : S_X3_takes ρ1 π1 T 2 sa en = if S_X8_character T sa = 59 then (1, ρ1, π1) else (0, ρ1, π1) := by
  unfold S_X3_takes
  rw [if_neg (by decide), if_neg (by decide)]
/-- the reference's loop, a step -/
theorem ld_in {κ σ α β τ ω κ1 σ1 α1 : Nat → Int32} {fu : Nat} {be : Int32} (h4 : κ1 4 = -100009) (hn : ¬ κ1 2 ≤ κ1 3) (hb : (if σ1 32 = 0 then (-1 : Int32) else σ1 (Int32.toNatClampNeg ((33 + 2 * σ1 32) - 2))) = be) : L_X10_load_32 (fu + 1) κ σ α β τ ω κ1 σ1 α1 = L_X10_load_32 fu κ σ α β τ ω (S_X10_skip (S_X10_readPoint κ1 σ1 τ be).1 τ) (S_X10_readPoint κ1 σ1 τ be).2 α1 := by
  conv => lhs; unfold L_X10_load_32
  rw [if_pos h4, if_neg hn]
  dsimp only
  rw [hb]
theorem ld_out {κ σ α β τ ω κ1 σ1 α1 : Nat → Int32} {fu : Nat} (h4 : κ1 4 = -100009) (hn : κ1 2 ≤ κ1 3) : L_X10_load_32 (fu + 1) κ σ α β τ ω κ1 σ1 α1 = L_X10_load_127 17 κ σ α β τ ω 0 κ1 σ1 α1 ω (σ1 32) := by
  conv => lhs; unfold L_X10_load_32
  rw [if_pos h4, if_pos hn]
theorem ld_err {κ σ α β τ ω κ1 σ1 α1 : Nat → Int32} {fu : Nat} (h4 : ¬ κ1 4 = -100009) : L_X10_load_32 (fu + 1) κ σ α β τ ω κ1 σ1 α1 = (-200000 - κ1 4, κ1, S_X10_release σ1 α1, α1, β, ω) := by
  conv => lhs; unfold L_X10_load_32
  rw [if_neg h4]
