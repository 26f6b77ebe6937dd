/-! small facts on ints, on at and put, on the arithmetic of a tick -/
theorem ta {a b : Int32} (h1 : -2147483648 ≤ a.toInt + b.toInt) (h2 : a.toInt + b.toInt < 2147483648) : (a + b).toInt = a.toInt + b.toInt := by
  rw [Int32.toInt_add]
  exact Int.bmod_eq_of_le (by omega) (by omega)
theorem tsu {a b : Int32} (h1 : -2147483648 ≤ a.toInt - b.toInt) (h2 : a.toInt - b.toInt < 2147483648) : (a - b).toInt = a.toInt - b.toInt := by
  rw [Int32.toInt_sub]
  exact Int.bmod_eq_of_le (by omega) (by omega)
theorem tml {a b : Int32} (h1 : -2147483648 ≤ a.toInt * b.toInt) (h2 : a.toInt * b.toInt < 2147483648) : (a * b).toInt = a.toInt * b.toInt := by
  rw [Int32.toInt_mul]
  exact Int.bmod_eq_of_le (by omega) (by omega)
theorem nle {a b : Int32} (h : ¬ a ≤ b) : b.toInt < a.toInt := Int32.lt_iff_toInt_lt.mp (Int32.not_le.mp h)
theorem nlt {a b : Int32} (h : ¬ a < b) : b.toInt ≤ a.toInt := Int32.le_iff_toInt_le.mp (Int32.not_lt.mp h)
theorem vin_i {i : Int32} {n : Nat} (h0 : 0 ≤ i.toInt) (h1 : i.toInt < n) : vp_in i n := by
  refine vin_of (fun z => ?_) ?_
  · rw [Int32.lt_iff_toInt_lt] at z
    have : (0 : Int32).toInt = 0 := rfl
    omega
  · have := clN h0
    omega
theorem am1 {a : Int32} (h : -2147483648 < a.toInt) : (a + (-1)).toInt = a.toInt - 1 := by
  have := Int32.toInt_lt a
  rw [ta (b := -1) (by show -2147483648 ≤ a.toInt + (-1); omega) (by show a.toInt + (-1) < 2147483648; omega)]
  rfl
theorem k_up {k : Int32} {K : Nat} (h : k.toInt = K) (hK : K ≤ 1000) : (k + 1).toInt = ((K + 1 : Nat) : Int) := by
  rw [ta (b := 1) (by rw [h]; show -2147483648 ≤ (K : Int) + 1; omega) (by rw [h]; show (K : Int) + 1 < 2147483648; omega), h]
  rfl
theorem k_dn {k : Int32} {K : Nat} (h : k.toInt = ((K + 1 : Nat) : Int)) (hK : K ≤ 1000) : (k - 1).toInt = (K : Int) ∧ (k + (-1)).toInt = (K : Int) := by
  refine ⟨?_, ?_⟩
  · rw [tsu (b := 1) (by rw [h]; show -2147483648 ≤ ((K + 1 : Nat) : Int) - 1; omega) (by rw [h]; show ((K + 1 : Nat) : Int) - 1 < 2147483648; omega), h]
    show ((K + 1 : Nat) : Int) - 1 = K
    omega
  · rw [am1 (by rw [h]; omega), h]
    omega
theorem i_eq {k : Int32} {K : Nat} (h : k.toInt = K) : Int32.toNatClampNeg k = K := by
  have := clN (x := k) (by rw [h]; exact Int.natCast_nonneg K)
  rw [h] at this
  exact Int.ofNat_inj.mp this
theorem n_of {n : Nat} (hn : n ≤ 1000) : (Int32.ofNat n).toInt = n := by
  rw [Int32.toInt_ofNat_of_lt (by omega)]
theorem S_at_in {row : Nat → Int32} {o t n K : Nat} {k : Int32} (h : k.toInt = K) (hK : K < n) (hn : n ≤ 1000) : S_at row o t n k = row (o + t * K) := by
  unfold S_at
  rw [if_neg, if_neg, i_eq h]
  · intro c
    have := Int32.le_iff_toInt_le.mp c
    rw [n_of hn, h] at this
    omega
  · intro c
    have := Int32.lt_iff_toInt_lt.mp c
    rw [h] at this
    have e : (0 : Int32).toInt = 0 := rfl
    omega
theorem S_put_in {row : Nat → Int32} {o t n K : Nat} {k v : Int32} (h : k.toInt = K) (hK : K < n) (hn : n ≤ 1000) : S_put row o t n k v = va_up row (o + t * K) v := by
  unfold S_put
  rw [if_neg, if_neg, i_eq h]
  · intro c
    have := Int32.le_iff_toInt_le.mp c
    rw [n_of hn, h] at this
    omega
  · intro c
    have := Int32.lt_iff_toInt_lt.mp c
    rw [h] at this
    have e : (0 : Int32).toInt = 0 := rfl
    omega
theorem not_neg_i {x : Int32} {K : Nat} (h : x.toInt = K) : ¬ x < 0 := fun c => by
  have := Int32.lt_iff_toInt_lt.mp c
  rw [h] at this
  have e : (0 : Int32).toInt = 0 := rfl
  omega
theorem window_eq (ρ : Nat → Int32) : S_X0_window ρ = ρ 26 + ρ 27 + ρ 28 + ρ 29 + ρ 30 + ρ 31 := by
  unfold S_X0_window
  simp only [L_X0_window_4]
  rw [if_neg (by decide), if_neg (by decide), if_neg (by decide), if_neg (by decide), if_neg (by decide), if_neg (by decide), if_pos (by decide)]
  rw [S_at_in (K := 0) rfl (by decide) (by decide), S_at_in (K := 1) rfl (by decide) (by decide), S_at_in (K := 2) rfl (by decide) (by decide), S_at_in (K := 3) rfl (by decide) (by decide), S_at_in (K := 4) rfl (by decide) (by decide), S_at_in (K := 5) rfl (by decide) (by decide), Int32.zero_add]
theorem age_ix {a : Int32} (h : 0 ≤ a.toInt ∧ a.toInt ≤ 1000000) : (S_J9_floorMod_7cf53 a 6).toInt = ((a.toInt % 6).toNat : Int) ∧ (a.toInt % 6).toNat < 6 ∧ Int32.toNatClampNeg (26 + (a - a / 6 * 6)) = 26 + (a.toInt % 6).toNat := by
  have e1 := fm32 (a := a) (b := 6) (by decide)
  have e6 : (6 : Int32).toInt = 6 := rfl
  rw [e6] at e1
  have e2 := dr32 (a := a) (b := 6) (by decide)
  rw [e6, Int.tmod_eq_emod_of_nonneg h.1] at e2
  have b1 : 0 ≤ a.toInt % 6 := by omega
  have b2 : a.toInt % 6 < 6 := by omega
  refine ⟨by rw [e1]; omega, by omega, ?_⟩
  refine i_eq ?_
  rw [ta (a := 26) (by rw [e2]; show -2147483648 ≤ 26 + a.toInt % 6; omega) (by rw [e2]; show 26 + a.toInt % 6 < 2147483648; omega), e2]
  show 26 + a.toInt % 6 = _
  omega
theorem pop_pt {ρ : Nat → Int32} {A : Nat} {ct m : Int32} (hA : (S_J9_floorMod_7cf53 (ρ 18) 6).toInt = A) (hA6 : A < 6) (hm : (if ρ 16 < ct then (0 : Int32) else S_J9_min_7cf53 (S_J9_floorDiv_7cf53 (ρ 16 - ct) 2 + 1) (1000 - ρ 20)) = m) (k : Nat) : S_X0_pop ρ ct k = if k = 26 + A then m else if k = 20 then ρ 20 + m else ρ k := by
  unfold S_X0_pop
  rw [hm, S_put_in hA hA6 (by decide)]
  simp only [va_up]
  rw [if_neg (show ¬ 20 = 26 + 1 * A by omega), Nat.one_mul]
  by_cases h1 : k = 26 + A
  · rw [if_neg (show ¬ k = 20 by omega), if_pos h1, if_pos h1]
  · rw [if_neg h1, if_neg h1]
theorem pm {x m M : Int} (h0 : 0 ≤ m) (h1 : m ≤ M) : (0 ≤ x → 0 ≤ x * m ∧ x * m ≤ x * M) ∧ (x ≤ 0 → x * M ≤ x * m ∧ x * m ≤ 0) := by
  refine ⟨fun h => ⟨Int.mul_nonneg h h0, Int.mul_le_mul_of_nonneg_left h1 h⟩, fun h => ?_⟩
  have a := Int.mul_le_mul_of_nonneg_left h1 (show 0 ≤ -x by omega)
  have b := Int.mul_nonneg (show 0 ≤ -x by omega) h0
  rw [Int.neg_mul, Int.neg_mul] at a
  rw [Int.neg_mul] at b
  omega
theorem drum1_t {d a p : Int32} (hd : -1000 ≤ d.toInt ∧ d.toInt ≤ 5000) (ha : 0 ≤ a.toInt ∧ a.toInt ≤ 400) (hp : 0 ≤ p.toInt ∧ p.toInt ≤ 100) : (d + S_down (8 * p - S_down (d - a) 5) 10).toInt = d.toInt + (8 * p.toInt - (d.toInt - a.toInt) / 5) / 10 := by
  have e1 : (d - a).toInt = d.toInt - a.toInt := tsu (by omega) (by omega)
  have e2 := dn32 (a := d - a) (b := 5) (by decide)
  have z5 : (5 : Int32).toInt = 5 := rfl
  rw [e1, z5] at e2
  have e3 : (8 * p).toInt = 8 * p.toInt := tml (a := 8) (by show -2147483648 ≤ 8 * p.toInt; omega) (by show 8 * p.toInt < 2147483648; omega)
  generalize S_down (d - a) 5 = x at e2 ⊢
  have e4 : (8 * p - x).toInt = 8 * p.toInt - (d.toInt - a.toInt) / 5 := by
    rw [tsu (by rw [e3, e2]; omega) (by rw [e3, e2]; omega), e3, e2]
  have e5 := dn32 (a := 8 * p - x) (b := 10) (by decide)
  have z10 : (10 : Int32).toInt = 10 := rfl
  rw [e4, z10] at e5
  generalize S_down (8 * p - x) 10 = y at e5 ⊢
  rw [ta (by rw [e5]; omega) (by rw [e5]; omega), e5]
theorem down_ml {x m K : Int32} {M D : Int} (hx : -10000 ≤ x.toInt ∧ x.toInt ≤ 10000) (hm : 0 ≤ m.toInt ∧ m.toInt ≤ M) (hM : M ≤ 1000) (hK : 0 < K.toInt) (eK : K.toInt = D) : (S_down (x * m) K).toInt = x.toInt * m.toInt / D := by
  have q := pm (x := x.toInt) hm.1 (Int.le_trans hm.2 hM)
  have b : -10000000 ≤ x.toInt * m.toInt ∧ x.toInt * m.toInt ≤ 10000000 := by
    rcases Int.le_total 0 x.toInt with h | h
    · have := q.1 h
      omega
    · have := q.2 h
      omega
  rw [dn32 hK, tml (by omega) (by omega), eK]
theorem drum_bd {d d1 b a p m y : Int} (hd : -1000 ≤ d ∧ d ≤ 5000) (hb : -1000 ≤ b ∧ b ≤ 5000) (ha : 0 ≤ a ∧ a ≤ 400) (hp : 0 ≤ p ∧ p ≤ 100) (h1 : d1 = d + (8 * p - (d - a) / 5) / 10) (hm : 0 ≤ m ∧ m ≤ 1000) (hy : y = (d - b) * m / 20000) : (-1000 ≤ d1 ∧ d1 ≤ 5000) ∧ -1000 ≤ d1 - y ∧ d1 - y ≤ 5000 := by
  have q := pm (x := d - b) hm.1 hm.2
  refine ⟨by omega, ?_⟩
  generalize (d - b) * m = z at q hy
  rcases Int.le_total 0 (d - b) with h | h
  · have := q.1 h
    clear q
    omega
  · have := q.2 h
    clear q
    omega
theorem bean_t {b D : Int32} (hb : -1000 ≤ b.toInt ∧ b.toInt ≤ 5000) (hD : -1000 ≤ D.toInt ∧ D.toInt ≤ 5000) : -1000 ≤ (b + S_down (D - b) 20).toInt ∧ (b + S_down (D - b) 20).toInt ≤ 5000 := by
  have e1 : (D - b).toInt = D.toInt - b.toInt := tsu (by omega) (by omega)
  have e2 := dn32 (a := D - b) (b := 20) (by decide)
  have z : (20 : Int32).toInt = 20 := rfl
  rw [e1, z] at e2
  generalize S_down (D - b) 20 = x at e2 ⊢
  rw [ta (by rw [e2]; omega) (by rw [e2]; omega), e2]
  omega
theorem cool_t {b a f : Int32} (hb : -1000 ≤ b.toInt ∧ b.toInt ≤ 5000) (ha : 0 ≤ a.toInt ∧ a.toInt ≤ 400) (hf : 1 ≤ f.toInt ∧ f.toInt ≤ 50) : -1000 ≤ (b - S_down ((b - a) * f) 100).toInt ∧ (b - S_down ((b - a) * f) 100).toInt ≤ 5000 := by
  have e1 : (b - a).toInt = b.toInt - a.toInt := tsu (by omega) (by omega)
  have e2 := down_ml (x := b - a) (m := f) (K := 100) (M := 50) (D := 100) (by rw [e1]; omega) ⟨by omega, hf.2⟩ (by decide) (by decide) rfl
  rw [e1] at e2
  have q := pm (x := b.toInt - a.toInt) (m := f.toInt) (M := 50) (by omega) hf.2
  generalize S_down ((b - a) * f) 100 = x at e2 ⊢
  generalize (b.toInt - a.toInt) * f.toInt = z at e2 q
  have bd : -1000 ≤ b.toInt - z / 100 ∧ b.toInt - z / 100 ≤ 5000 := by
    rcases Int.le_total 0 (b.toInt - a.toInt) with h | h
    · have := q.1 h
      clear q
      omega
    · have := q.2 h
      clear q
      omega
  rw [tsu (by rw [e2]; omega) (by rw [e2]; omega), e2]
  exact bd
/-- five rows written: a kept state's four, and the history's -/
def U4 (h : Hp) (g : Nat) (a b c d e : Nat → Int32) : Hp := va_up (va_up (va_up (va_up (va_up h (g + 1) a) (g + 2) b) (g + 3) c) (g + 4) d) 10 e
theorem U4_10 (h : Hp) (g : Nat) (a b c d e : Nat → Int32) : U4 h g a b c d e 10 = e := va_up_self _ _ _
theorem U4_in {h : Hp} {g : Nat} {a b c d e : Nat → Int32} (hg : 11 ≤ g) : U4 h g a b c d e (g + 1) = a ∧ U4 h g a b c d e (g + 2) = b ∧ U4 h g a b c d e (g + 3) = c ∧ U4 h g a b c d e (g + 4) = d := by
  unfold U4
  refine ⟨?_, ?_, ?_, ?_⟩
  · rw [va_up_ne _ _ (show g + 1 ≠ 10 by omega), va_up_ne _ _ (show g + 1 ≠ g + 4 by omega), va_up_ne _ _ (show g + 1 ≠ g + 3 by omega), va_up_ne _ _ (show g + 1 ≠ g + 2 by omega), va_up_self]
  · rw [va_up_ne _ _ (show g + 2 ≠ 10 by omega), va_up_ne _ _ (show g + 2 ≠ g + 4 by omega), va_up_ne _ _ (show g + 2 ≠ g + 3 by omega), va_up_self]
  · rw [va_up_ne _ _ (show g + 3 ≠ 10 by omega), va_up_ne _ _ (show g + 3 ≠ g + 4 by omega), va_up_self]
  · rw [va_up_ne _ _ (show g + 4 ≠ 10 by omega), va_up_self]
theorem U4_out {h : Hp} {g : Nat} {a b c d e : Nat → Int32} {k : Nat} (h1 : k ≠ 10) (h2 : k < g + 1 ∨ g + 4 < k) : U4 h g a b c d e k = h k := by
  unfold U4
  rw [va_up_ne _ _ h1, va_up_ne _ _ (show k ≠ g + 4 by omega), va_up_ne _ _ (show k ≠ g + 3 by omega), va_up_ne _ _ (show k ≠ g + 2 by omega), va_up_ne _ _ (show k ≠ g + 1 by omega)]
theorem slot_pt {ρ : Nat → Int32} {st : Int32} {o s : Nat} (h0 : (ρ 0).toInt = o) (ho : o ≤ 1000000) (hs : st.toInt = s) (h5 : s ≤ 5) : S_X1_slot ρ st = (o + s) % 5 := by
  unfold S_X1_slot
  have e := fm32 (a := ρ 0 + st) (b := 5) (by decide)
  have z : (5 : Int32).toInt = 5 := rfl
  rw [z, ta (by rw [h0, hs]; omega) (by rw [h0, hs]; omega), h0, hs] at e
  exact i_eq (by rw [e]; omega)
def ENT (Y ρ1 ρ2 : Nat → Int32) (K : Nat) : Prop := Y 0 = ρ1 0 + 1 ∧ Y 1 = S_J9_min_7cf53 (ρ1 1 + 1) 8 ∧ Y 2 = ρ1 0 + 1 ∧ Y 3 = ρ2 18 ∧ Y 4 = ρ2 23 ∧ Y 5 = ρ2 24 ∧ Y 6 = ρ2 19 ∧ Y 7 = ρ2 25 ∧ (∀ j, 8 ≤ j → j ≤ 2 + K → Y j = ρ1 (j - 6)) ∧ ∀ j, 2 + K < j → 8 ≤ j → Y j = ρ1 j
theorem L_enter_pt {ρ ρ2 : Nat → Int32} : ∀ (fu : Nat) (k : Int32) (K : Nat) (ρ1 : Nat → Int32), k.toInt = K → 5 ≤ K → K ≤ 47 → K - 5 < fu → ENT (L_X2_enter_8 fu ρ ρ2 k ρ1) ρ1 ρ2 K := by
  intro fu
  induction fu with
  | zero => intro _ _ _ _ _ _ h; exact absurd h (Nat.not_lt_zero _)
  | succ fu ih =>
    intro k K ρ1 hk h5 hK hf
    unfold L_X2_enter_8
    have z : (6 : Int32).toInt = 6 := rfl
    by_cases c : k < 6
    · have c2 := Int32.lt_iff_toInt_lt.mp c
      rw [hk, z] at c2
      rw [if_pos c]
      dsimp only
      rw [S_put_in (k := 5) (K := 5) rfl (by decide) (by decide), S_put_in (k := 4) (K := 4) rfl (by decide) (by decide), S_put_in (k := 3) (K := 3) rfl (by decide) (by decide), S_put_in (k := 2) (K := 2) rfl (by decide) (by decide), S_put_in (k := 1) (K := 1) rfl (by decide) (by decide), S_put_in (k := 0) (K := 0) rfl (by decide) (by decide)]
      refine ⟨rfl, rfl, rfl, rfl, rfl, rfl, rfl, rfl, fun j h1 h2 => absurd h2 (by omega), fun j h1 h2 => ?_⟩
      rw [va_up_ne _ _ (by omega), va_up_ne _ _ (by omega), va_up_ne _ _ (by omega), va_up_ne _ _ (by omega), va_up_ne _ _ (by omega), va_up_ne _ _ (by omega), va_up_ne _ _ (by omega), va_up_ne _ _ (by omega)]
    · have c2 := nlt c
      rw [hk, z] at c2
      have e6 : (k - 6).toInt = ((K - 6 : Nat) : Int) := by
        rw [tsu (b := 6) (by rw [hk]; show -2147483648 ≤ (K : Int) - 6; omega) (by rw [hk]; show (K : Int) - 6 < 2147483648; omega), hk]
        show (K : Int) - 6 = _
        omega
      have e1 : (k + (-1)).toInt = ((K - 1 : Nat) : Int) := by
        rw [am1 (by rw [hk]; omega), hk]
        omega
      rw [if_neg c, S_put_in hk (by omega) (by decide), S_at_in e6 (by omega) (by decide)]
      dsimp only
      obtain ⟨y0, y1, y2, y3, y4, y5, y6, y7, y8, y9⟩ := ih (k + (-1)) (K - 1) (va_up ρ1 (2 + 1 * K) (ρ1 (2 + 1 * (K - 6)))) e1 (by omega) (by omega) (by omega)
      generalize L_X2_enter_8 fu ρ ρ2 (k + (-1)) (va_up ρ1 (2 + 1 * K) (ρ1 (2 + 1 * (K - 6)))) = Y at *
      rw [va_up_ne _ _ (by omega)] at y0 y1 y2
      refine ⟨y0, y1, y2, y3, y4, y5, y6, y7, fun j h1 h2 => ?_, fun j h1 h2 => ?_⟩
      · by_cases d : j = 2 + K
        · rw [y9 j (by omega) h1, d, show 2 + 1 * K = 2 + K by omega, va_up_self, show 2 + 1 * (K - 6) = 2 + K - 6 by omega]
        · rw [y8 j h1 (by omega), va_up_ne _ _ (by omega)]
      · rw [y9 j (by omega) h2, va_up_ne _ _ (by omega)]
theorem min_t (a b : Int32) : (S_J9_min_7cf53 a b).toInt = if b.toInt < a.toInt then b.toInt else a.toInt := by
  unfold S_J9_min_7cf53
  by_cases c : b < a
  · rw [if_pos c, if_pos (Int32.lt_iff_toInt_lt.mp c)]
  · rw [if_neg c, if_neg (fun d => c (Int32.lt_iff_toInt_lt.mpr d))]
theorem max_t (a b : Int32) : (S_J9_max_7cf53 a b).toInt = if a.toInt < b.toInt then b.toInt else a.toInt := by
  unfold S_J9_max_7cf53
  by_cases c : a < b
  · rw [if_pos c, if_pos (Int32.lt_iff_toInt_lt.mp c)]
  · rw [if_neg c, if_neg (fun d => c (Int32.lt_iff_toInt_lt.mpr d))]
theorem clamp_b {x a b : Int32} (h : a.toInt ≤ b.toInt) : a.toInt ≤ (S_X9_clamp x a b).toInt ∧ (S_X9_clamp x a b).toInt ≤ b.toInt := by
  unfold S_X9_clamp
  have e := min_t x b
  have f := max_t a (S_J9_min_7cf53 x b)
  generalize S_J9_min_7cf53 x b = y at e f ⊢
  generalize S_J9_max_7cf53 a y = z at f ⊢
  split at e <;> split at f <;> omega
theorem inR {a b d : Int32} (h : ¬ S_X9_inRange a b d = 0) : b.toInt ≤ a.toInt ∧ a.toInt ≤ d.toInt := by
  unfold S_X9_inRange at h
  by_cases c1 : a < b
  · rw [if_pos c1] at h; exact absurd rfl h
  · by_cases c2 : d < a
    · rw [if_neg c1, if_pos c2] at h; exact absurd rfl h
    · exact ⟨nlt c1, nlt c2⟩

