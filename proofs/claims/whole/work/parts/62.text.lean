/-- the text, by places -/
def TT (T τ : Nat → Int32) (n : Nat) : Prop := (T 0).toInt = n ∧ n ≤ 100 ∧ ∀ k, k < n → T (1 + k) = τ k
theorem chr_at {T τ : Nat → Int32} {n i : Nat} {o : Int32} (hT : TT T τ n) (ho : o.toInt = i) : S_X8_character T o = if i < n then τ i else 0 := by
  obtain ⟨h0, h1, h2⟩ := hT
  unfold S_X8_character
  by_cases c : i < n
  · rw [if_pos c, if_neg (show ¬ T 0 ≤ o from fun q => by have := Int32.le_iff_toInt_le.mp q; omega), S_at_in ho (by omega) (by decide), Nat.one_mul, h2 i c]
  · rw [if_neg c, if_pos (show T 0 ≤ o from Int32.le_iff_toInt_le.mpr (by omega))]
theorem her_at {κ τ : Nat → Int32} {n i : Nat} (h2 : (κ 2).toInt = n) (h3 : (κ 3).toInt = i) : S_X10_here κ τ = if i < n then τ i else -1 := by
  unfold S_X10_here
  by_cases c : i < n
  · rw [if_pos c, if_neg (show ¬ κ 2 ≤ κ 3 from fun q => by have := Int32.le_iff_toInt_le.mp q; omega), i_eq h3]
  · rw [if_neg c, if_pos (show κ 2 ≤ κ 3 from Int32.le_iff_toInt_le.mpr (by omega))]
theorem dig_at {T τ : Nat → Int32} {n i : Nat} {o : Int32} (hT : TT T τ n) (ho : o.toInt = i) : S_X8_isDigit T o = if i < n then S_X10_in (τ i) 48 57 else 0 := by
  unfold S_X8_isDigit
  rw [in_eq, chr_at hT ho]
  by_cases c : i < n
  · rw [if_pos c, if_pos c]
  · rw [if_neg c, if_neg c]
    rfl
theorem hdg_at {κ τ : Nat → Int32} {n i : Nat} (h2 : (κ 2).toInt = n) (h3 : (κ 3).toInt = i) : S_X10_in (S_X10_here κ τ) 48 57 = if i < n then S_X10_in (τ i) 48 57 else 0 := by
  rw [her_at h2 h3]
  by_cases c : i < n
  · rw [if_pos c, if_pos c]
  · rw [if_neg c, if_neg c]
    rfl
theorem L_sp {T τ κ : Nat → Int32} {of : Int32} {n : Nat} (hT : TT T τ n) : ∀ (fu1 fu2 : Nat) (en k : Int32) (i K : Nat) (κ1 : Nat → Int32), en.toInt = i → k.toInt = K → K ≤ i → i ≤ n → n - i < fu1 → n - i < fu2 → κ1 3 = en → (κ1 2).toInt = n → ∃ j, i ≤ j ∧ j ≤ n ∧ (L_X8_afterSpaces_4 fu1 T of en k).toInt = j ∧ L_X10_skip_0 fu2 κ τ κ1 = va_up κ1 3 (L_X8_afterSpaces_4 fu1 T of en k) ∧ (j < n → ¬ τ j = 32) ∧ ((i < n → ¬ τ i = 32) → L_X8_afterSpaces_4 fu1 T of en k = en) := by
  intro fu1
  induction fu1 with
  | zero => intro _ _ _ _ _ _ _ _ _ _ h; exact absurd h (Nat.not_lt_zero _)
  | succ fu1 ih =>
    intro fu2 en k i K κ1 hen hk hKi hin hf1 hf2 h3 h2
    cases fu2 with
    | zero => exact absurd hf2 (Nat.not_lt_zero _)
    | succ fu2 =>
      have hn := hT.2.1
      have z : (100 : Int32).toInt = 100 := rfl
      unfold L_X8_afterSpaces_4 L_X10_skip_0
      rw [her_at h2 (by rw [h3]; exact hen), chr_at hT hen]
      by_cases c : i < n ∧ τ i = 32
      · rw [if_pos c.1, if_pos c.1, if_pos c.2, if_pos c.2, if_neg (show ¬ 100 ≤ k from fun q => by have := Int32.le_iff_toInt_le.mp q; omega)]
        dsimp only
        obtain ⟨j, a, b, d, e, f, -⟩ := ih fu2 (en + 1) (k + 1) (i + 1) (K + 1) (va_up κ1 3 (κ1 3 + 1)) (k_up hen (by omega)) (k_up hk (by omega)) (by omega) (by omega) (by omega) (by omega) (by rw [va_up_self, h3]) (by rw [va_up_ne _ _ (by decide)]; exact h2)
        exact ⟨j, by omega, b, d, by rw [e, va_up_up], f, fun q => absurd c.2 (q c.1)⟩
      · have c1 : ¬ (if i < n then τ i else -1) = 32 := fun q => by
          by_cases d : i < n
          · rw [if_pos d] at q
            exact c ⟨d, q⟩
          · rw [if_neg d] at q
            exact absurd q (by decide)
        have c2 : ¬ (if i < n then τ i else 0) = 32 := fun q => by
          by_cases d : i < n
          · rw [if_pos d] at q
            exact c ⟨d, q⟩
          · rw [if_neg d] at q
            exact absurd q (by decide)
        rw [if_neg c1, if_neg c2, ite_self]
        exact ⟨i, Nat.le_refl _, hin, hen, by rw [va_up_id2 h3], fun q d => c ⟨q, d⟩, fun _ => rfl⟩
theorem sp_at {T τ κ : Nat → Int32} {n i : Nat} {sa : Int32} (hT : TT T τ n) (hs : sa.toInt = i) (hi : i ≤ n) (h3 : κ 3 = sa) (h2 : (κ 2).toInt = n) : ∃ j, i ≤ j ∧ j ≤ n ∧ (S_X8_afterSpaces T sa).toInt = j ∧ S_X10_skip κ τ = va_up κ 3 (S_X8_afterSpaces T sa) ∧ (j < n → ¬ τ j = 32) ∧ ((i < n → ¬ τ i = 32) → S_X8_afterSpaces T sa = sa) := by
  have hn := hT.2.1
  exact L_sp hT 101 (((κ 2).toInt - (κ 3).toInt).toNat + 1) sa 0 i 0 κ hs rfl (Nat.zero_le _) hi (by omega) (by rw [h2, h3, hs]; omega) h3 h2
theorem L_tok {T τ : Nat → Int32} {of : Int32} {n i : Nat} (hT : TT T τ n) (ho : of.toInt = i) (hi : i < n) (hd : ¬ S_X10_in (τ i) 48 57 = 0) : ∀ (fu : Nat) (en k : Int32) (p K : Nat), en.toInt = p → k.toInt = K → K < p → i < p → p ≤ n → n - p < fu → (∀ q, i ≤ q → q < p → ¬ S_X10_in (τ q) 48 57 = 0) → ∃ j, p ≤ j ∧ j ≤ n ∧ (L_X8_afterToken_6 fu T of en k).toInt = j ∧ (∀ q, i ≤ q → q < j → ¬ S_X10_in (τ q) 48 57 = 0) ∧ (j < n → S_X10_in (τ j) 48 57 = 0) := by
  intro fu
  induction fu with
  | zero => intro _ _ _ _ _ _ _ _ _ h; exact absurd h (Nat.not_lt_zero _)
  | succ fu ih =>
    intro en k p K hen hk hKp hip hpn hf hq
    have hn := hT.2.1
    have z : (100 : Int32).toInt = 100 := rfl
    unfold L_X8_afterToken_6
    rw [dig_at hT ho, dig_at hT hen, if_pos hi, if_neg hd, if_neg (show ¬ 100 ≤ k from fun q => by have := Int32.le_iff_toInt_le.mp q; omega)]
    by_cases c : p < n ∧ ¬ S_X10_in (τ p) 48 57 = 0
    · rw [if_pos c.1, if_neg c.2]
      obtain ⟨j, a, b, d, e, f⟩ := ih (en + 1) (k + 1) (p + 1) (K + 1) (k_up hen (by omega)) (k_up hk (by omega)) (by omega) (by omega) (by omega) (by omega) (fun q q1 q2 => by
        by_cases w : q = p
        · rw [w]; exact c.2
        · exact hq q q1 (by omega))
      exact ⟨j, by omega, b, d, e, f⟩
    · have c1 : (if p < n then S_X10_in (τ p) 48 57 else 0) = 0 := by
        by_cases d : p < n
        · rw [if_pos d]
          exact Decidable.byContradiction (fun q => c ⟨d, q⟩)
        · rw [if_neg d]
      rw [if_pos c1]
      refine ⟨p, Nat.le_refl _, hpn, hen, hq, fun d => ?_⟩
      rw [if_pos d] at c1
      exact c1
theorem tok_at {T τ : Nat → Int32} {n i : Nat} {sa : Int32} (hT : TT T τ n) (hs : sa.toInt = i) (hi : i < n) (hd : ¬ S_X10_in (τ i) 48 57 = 0) : ∃ j, i < j ∧ j ≤ n ∧ (S_X8_afterToken T sa).toInt = j ∧ (∀ q, i ≤ q → q < j → ¬ S_X10_in (τ q) 48 57 = 0) ∧ (j < n → S_X10_in (τ j) 48 57 = 0) := by
  have hn := hT.2.1
  obtain ⟨j, a, b⟩ := L_tok hT hs hi hd 101 (sa + 1) 0 (i + 1) 0 (k_up hs (by omega)) rfl (by omega) (by omega) (by omega) (by omega) (fun q q1 q2 => by
    rw [show q = i by omega]
    exact hd)
  exact ⟨j, by omega, b⟩
theorem tok_no {T τ : Nat → Int32} {n i : Nat} {sa : Int32} (hT : TT T τ n) (hs : sa.toInt = i) (hi : i < n) (hd : S_X10_in (τ i) 48 57 = 0) : S_X8_afterToken T sa = sa + 1 := by
  unfold S_X8_afterToken L_X8_afterToken_6
  rw [dig_at hT hs, if_pos hi, if_pos hd, ite_self]
/-- the number as the class and as the reference collects it -/
def NV (nu va : Int32) : Prop := (0 ≤ va.toInt ∧ va.toInt < 10000 ∧ nu = va) ∨ (10000 ≤ va.toInt ∧ va.toInt ≤ 99999 ∧ 10000 ≤ nu.toInt ∧ nu.toInt ≤ 100000)
theorem NV_step {nu va x : Int32} (h : NV nu va) (hx : 48 ≤ x.toInt ∧ x.toInt ≤ 57) : NV (S_J9_min_7cf53 ((nu * 10 + x) - 48) 100000) (if 10000 ≤ va then va else (10 * va + x) - 48) := by
  have z10 : (10 : Int32).toInt = 10 := rfl
  have z48 : (48 : Int32).toInt = 48 := rfl
  have z4 : (10000 : Int32).toInt = 10000 := rfl
  have z5 : (100000 : Int32).toInt = 100000 := rfl
  unfold S_J9_min_7cf53
  rcases h with ⟨h1, h2, rfl⟩ | ⟨h1, h2, h3, h4⟩
  · have m1 : (nu * 10).toInt = nu.toInt * 10 := by rw [tml (by rw [z10]; omega) (by rw [z10]; omega), z10]
    have m2 : (10 * nu).toInt = nu.toInt * 10 := by rw [tml (by rw [z10]; omega) (by rw [z10]; omega), z10]; omega
    have e : nu * 10 = 10 * nu := Int32.toInt_inj.mp (by rw [m1, m2])
    rw [e, if_neg (show ¬ 10000 ≤ nu from fun q => by have := Int32.le_iff_toInt_le.mp q; omega)]
    have a1 : (10 * nu + x).toInt = nu.toInt * 10 + x.toInt := by rw [ta (by rw [m2]; omega) (by rw [m2]; omega), m2]
    have a2 : (10 * nu + x - 48).toInt = nu.toInt * 10 + x.toInt - 48 := by rw [tsu (by rw [a1, z48]; omega) (by rw [a1, z48]; omega), a1, z48]
    generalize 10 * nu + x - 48 = y at a2 ⊢
    rw [if_neg (show ¬ 100000 < y from fun q => by have := Int32.lt_iff_toInt_lt.mp q; omega)]
    by_cases c : y.toInt < 10000
    · exact Or.inl ⟨by omega, c, rfl⟩
    · exact Or.inr ⟨by omega, by omega, by omega, by omega⟩
  · rw [if_pos (show 10000 ≤ va from Int32.le_iff_toInt_le.mpr (by omega))]
    have m1 : (nu * 10).toInt = nu.toInt * 10 := by rw [tml (by rw [z10]; omega) (by rw [z10]; omega), z10]
    have a1 : (nu * 10 + x).toInt = nu.toInt * 10 + x.toInt := by rw [ta (by rw [m1]; omega) (by rw [m1]; omega), m1]
    have a2 : (nu * 10 + x - 48).toInt = nu.toInt * 10 + x.toInt - 48 := by rw [tsu (by rw [a1, z48]; omega) (by rw [a1, z48]; omega), a1, z48]
    generalize nu * 10 + x - 48 = y at a2 ⊢
    refine Or.inr ⟨h1, h2, ?_, ?_⟩
    · split <;> omega
    · by_cases c : 100000 < y
      · rw [if_pos c]; omega
      · rw [if_neg c]
        have := nlt c
        omega
theorem NV_in {nu va le mo : Int32} (h : NV nu va) (hm : mo.toInt < 10000) : S_X10_in nu le mo = S_X10_in va le mo ∧ (¬ S_X10_in nu le mo = 0 → nu = va) := by
  rcases h with ⟨h1, h2, rfl⟩ | ⟨h1, h2, h3, h4⟩
  · exact ⟨rfl, fun _ => rfl⟩
  · have a : ∀ x : Int32, 10000 ≤ x.toInt → S_X10_in x le mo = 0 := fun x hx => by
      unfold S_X10_in
      rw [if_pos (show mo < x from Int32.lt_iff_toInt_lt.mpr (by omega)), ite_self]
    rw [a nu h3, a va h1]
    exact ⟨rfl, fun q => absurd rfl q⟩
/-- the end of takeNumber -/
def TKE (τ : Nat → Int32) (le mo sa va : Int32) (κ1 : Nat → Int32) : Int32 × (Nat → Int32) := (va, va_up κ1 4 (if (if (κ1 3) ≤ sa then (0 : Int32) else (if (τ (Int32.toNatClampNeg sa)) = 48 then (if (κ1 3) = (sa + 1) then (if (S_X10_in va le mo) = 0 then (0) else (1)) else (0)) else (if (S_X10_in va le mo) = 0 then (0) else (1)))) = 0 then (if (κ1 4) = (-100009) then (sa) else (κ1 4)) else (κ1 4)))
theorem take_end {κ κ1 τ : Nat → Int32} {le mo sa va : Int32} {fu : Nat} (h : S_X10_in (S_X10_here κ1 τ) 48 57 = 0) : L_X10_takeNumber_12 (fu + 1) κ τ le mo sa va κ1 = TKE τ le mo sa va κ1 := by
  unfold L_X10_takeNumber_12 TKE
  rw [if_pos h]
theorem L_num {T τ κ : Nat → Int32} {le mo sa en : Int32} {n j : Nat} (hT : TT T τ n) (hj : en.toInt = j) (hjn : j ≤ n) (he : j < n → S_X10_in (τ j) 48 57 = 0) : ∀ (fu1 fu2 p : Nat) (nu va k : Int32) (κ1 : Nat → Int32), k.toInt = p → κ1 3 = k → (κ1 2).toInt = n → p ≤ j → (∀ q, p ≤ q → q < j → ¬ S_X10_in (τ q) 48 57 = 0) → j - p < fu1 → j - p < fu2 → NV nu va → ∃ nu' va', L_X8_numberIn_32 fu1 T sa en nu k = nu' ∧ NV nu' va' ∧ L_X10_takeNumber_12 fu2 κ τ le mo sa va κ1 = TKE τ le mo sa va' (va_up κ1 3 en) := by
  intro fu1
  induction fu1 with
  | zero => intro _ _ _ _ _ _ _ _ _ _ _ h; exact absurd h (Nat.not_lt_zero _)
  | succ fu1 ih =>
    intro fu2 p nu va k κ1 hk h3 h2 hp hq hf1 hf2 hv
    cases fu2 with
    | zero => exact absurd hf2 (Nat.not_lt_zero _)
    | succ fu2 =>
      have hn := hT.2.1
      by_cases c : p = j
      · subst c
        have ek : k = en := Int32.toInt_inj.mp (by rw [hk, hj])
        refine ⟨nu, va, ?_, hv, ?_⟩
        · unfold L_X8_numberIn_32
          rw [if_pos (show en ≤ k from by rw [ek]; exact Int32.le_refl _)]
        · rw [va_up_id2 (h3.trans ek)]
          refine take_end ?_
          rw [hdg_at h2 (by rw [h3]; exact hk)]
          by_cases d : p < n
          · rw [if_pos d]; exact he d
          · rw [if_neg d]
      · have hpn : p < n := by omega
        have hd := hq p (Nat.le_refl _) (by omega)
        have bd := in_iff hd
        have z48 : (48 : Int32).toInt = 48 := rfl
        have z57 : (57 : Int32).toInt = 57 := rfl
        rw [z48, z57] at bd
        unfold L_X8_numberIn_32 L_X10_takeNumber_12
        rw [hdg_at h2 (by rw [h3]; exact hk), if_pos hpn, if_neg hd, if_neg (show ¬ en ≤ k from fun q => by have := Int32.le_iff_toInt_le.mp q; omega), chr_at hT hk, if_pos hpn, her_at h2 (by rw [h3]; exact hk), if_pos hpn]
        dsimp only
        obtain ⟨nu', va', a, b, d⟩ := ih fu2 (p + 1) _ _ (k + 1) (va_up κ1 3 (κ1 3 + 1)) (k_up hk (by omega)) (by rw [va_up_self, h3]) (by rw [va_up_ne _ _ (by decide)]; exact h2) (by omega) (fun q q1 q2 => hq q (by omega) q2) (by omega) (by omega) (NV_step hv bd)
        exact ⟨nu', va', a, b, by rw [d, va_up_up]⟩
/-- a number's token -/
theorem num_at {T τ κ κ1 : Nat → Int32} {le mo sa : Int32} {n i : Nat} (hT : TT T τ n) (hs : sa.toInt = i) (hi : i < n) (h3 : κ1 3 = sa) (h2 : (κ1 2).toInt = n) (h4 : κ1 4 = -100009) (hle : 0 ≤ le.toInt) (hmo : mo.toInt < 10000) : (¬ S_X10_in (S_X8_numberIn T sa (S_X8_afterToken T sa)) le mo = 0 ∧ L_X10_takeNumber_12 (((κ1 2).toInt - (κ1 3).toInt).toNat + 1) κ τ le mo sa 0 κ1 = (S_X8_numberIn T sa (S_X8_afterToken T sa), va_up κ1 3 (S_X8_afterToken T sa)) ∧ ∃ j, i < j ∧ j ≤ n ∧ (S_X8_afterToken T sa).toInt = j) ∨ (S_X10_in (S_X8_numberIn T sa (S_X8_afterToken T sa)) le mo = 0 ∧ (L_X10_takeNumber_12 (((κ1 2).toInt - (κ1 3).toInt).toNat + 1) κ τ le mo sa 0 κ1).2 4 = sa) := by
  have hn := hT.2.1
  have m1 : S_X10_in (-1) le mo = 0 := by
    unfold S_X10_in
    rw [if_pos (show (-1 : Int32) < le from Int32.lt_iff_toInt_lt.mpr (by show (-1 : Int) < le.toInt; omega))]
  have h3i : (κ1 3).toInt = i := by rw [h3]; exact hs
  by_cases hd : S_X10_in (τ i) 48 57 = 0
  · have en : S_X8_numberIn T sa (S_X8_afterToken T sa) = -1 := by
      unfold S_X8_numberIn
      rw [dig_at hT hs, if_pos hi, if_pos hd]
    rw [en]
    refine Or.inr ⟨m1, ?_⟩
    rw [take_end (by rw [hdg_at h2 h3i, if_pos hi]; exact hd)]
    unfold TKE
    rw [if_pos (show κ1 3 ≤ sa by rw [h3]; exact Int32.le_refl _), if_pos rfl, if_pos h4]
    exact va_up_self κ1 4 sa
  · obtain ⟨j, j1, j2, j3, j4, j5⟩ := tok_at hT hs hi hd
    generalize S_X8_afterToken T sa = E at *
    obtain ⟨nu, va, a, b, d⟩ := L_num (κ := κ) (le := le) (mo := mo) (sa := sa) hT j3 j2 j5 ((E.toInt - sa.toInt).toNat + 1) (((κ1 2).toInt - (κ1 3).toInt).toNat + 1) i 0 0 sa κ1 hs h3 h2 (by omega) j4 (by omega) (by rw [h2, h3i]; omega) (Or.inl ⟨by decide, by decide, rfl⟩)
    obtain ⟨v1, v2⟩ := NV_in (le := le) (mo := mo) b hmo
    rw [d]
    have e3 : va_up κ1 3 E 3 = E := va_up_self _ _ _
    have e4 : va_up κ1 3 E 4 = -100009 := by rw [va_up_ne _ _ (by decide)]; exact h4
    have nE : ¬ E ≤ sa := fun q => by have := Int32.le_iff_toInt_le.mp q; omega
    have e48 : S_X8_character T sa = τ i := by rw [chr_at hT hs, if_pos hi]
    have sa1 := k_up hs (by omega)
    have form : S_X8_numberIn T sa E = if τ i = 48 then (if E ≤ sa + 1 then nu else -1) else nu := by
      unfold S_X8_numberIn
      rw [dig_at hT hs, if_pos hi, if_neg hd, e48, a]
    unfold TKE
    rw [form, e3, e4, if_neg nE, i_eq hs, if_pos rfl, ← v1]
    have fin : ∀ x : Int32, x = nu → S_X10_in x le mo = S_X10_in nu le mo := fun x hx => by rw [hx]
    have okay : ¬ S_X10_in nu le mo = 0 → ((va, va_up (va_up κ1 3 E) 4 (-100009)) : Int32 × (Nat → Int32)) = (nu, va_up κ1 3 E) := fun q => by rw [v2 q, va_up_id2 e4]
    by_cases c : τ i = 48
    · rw [if_pos c, if_pos c]
      by_cases f : E ≤ sa + 1
      · have fe : E = sa + 1 := Int32.toInt_inj.mp (by have := Int32.le_iff_toInt_le.mp f; omega)
        rw [if_pos f, if_pos fe]
        by_cases g : S_X10_in nu le mo = 0
        · refine Or.inr ⟨g, ?_⟩
          rw [if_pos g, if_pos rfl]
          exact va_up_self (va_up κ1 3 E) 4 sa
        · refine Or.inl ⟨g, ?_, j, j1, j2, j3⟩
          rw [if_neg g, if_neg (by decide)]
          exact okay g
      · have fe : ¬ E = sa + 1 := fun q => f (by rw [q]; exact Int32.le_refl _)
        rw [if_neg f, if_neg fe, if_pos rfl]
        exact Or.inr ⟨m1, va_up_self (va_up κ1 3 E) 4 sa⟩
    · rw [if_neg c, if_neg c]
      by_cases g : S_X10_in nu le mo = 0
      · refine Or.inr ⟨g, ?_⟩
        rw [if_pos g, if_pos rfl]
        exact va_up_self (va_up κ1 3 E) 4 sa
      · refine Or.inl ⟨g, ?_, j, j1, j2, j3⟩
        rw [if_neg g, if_neg (by decide)]
        exact okay g
theorem num_no {κ κ1 τ : Nat → Int32} {le mo sa : Int32} {n : Nat} (hs : sa.toInt = n) (h3 : κ1 3 = sa) (h2 : (κ1 2).toInt = n) (h4 : κ1 4 = -100009) : (L_X10_takeNumber_12 (((κ1 2).toInt - (κ1 3).toInt).toNat + 1) κ τ le mo sa 0 κ1).2 4 = sa := by
  have h3i : (κ1 3).toInt = n := by rw [h3]; exact hs
  rw [take_end (by rw [hdg_at h2 h3i, if_neg (Nat.lt_irrefl _)])]
  unfold TKE
  rw [if_pos (show κ1 3 ≤ sa by rw [h3]; exact Int32.le_refl _), if_pos rfl, if_pos h4]
  exact va_up_self κ1 4 sa
