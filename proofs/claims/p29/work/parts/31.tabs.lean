/-! TABLES: a size in its bounds, values in theirs -/
def VB (n : Nat) (hi : Int) (ρ : Nat → Int32) : Prop := ∀ j, j < n → 0 ≤ (ρ (2 + 2 * j)).toInt ∧ (ρ (2 + 2 * j)).toInt ≤ hi
def TB (n : Nat) (hi : Int) (ρ : Nat → Int32) : Prop := (0 ≤ (ρ 0).toInt ∧ (ρ 0).toInt ≤ n) ∧ VB n hi ρ
theorem at_bd {row : Nat → Int32} {n : Nat} {hi : Int} (hn : n ≤ 1000) (hh : 0 ≤ hi) (h : VB n hi row) (i : Int32) : 0 ≤ (S_at row 2 2 n i).toInt ∧ (S_at row 2 2 n i).toInt ≤ hi := by
  unfold S_at
  by_cases c : i < 0
  · rw [if_pos c]; exact ⟨Int.le_refl _, hh⟩
  · rw [if_neg c]
    by_cases d : Int32.ofNat n ≤ i
    · rw [if_pos d]; exact ⟨Int.le_refl _, hh⟩
    · rw [if_neg d]
      have a := nlt c
      have b := nle d
      rw [n_of hn] at b
      have z : (0 : Int32).toInt = 0 := rfl
      have e := clN (x := i) (by omega)
      exact h _ (by omega)
theorem put_keys {row : Nat → Int32} {n : Nat} {hi : Int} (h : VB n hi row) (i x : Int32) : VB n hi (S_put row 1 2 n i x) := by
  unfold S_put
  split
  · exact h
  · split
    · exact h
    · intro j hj
      rw [va_up_ne _ _ (by omega)]
      exact h j hj
theorem put_vals {row : Nat → Int32} {n : Nat} {hi : Int} (h : VB n hi row) (i : Int32) {x : Int32} (hx : 0 ≤ x.toInt ∧ x.toInt ≤ hi) : VB n hi (S_put row 2 2 n i x) := by
  unfold S_put
  split
  · exact h
  · split
    · exact h
    · intro j hj
      by_cases c : j = i.toNatClampNeg
      · rw [c, va_up_self]; exact hx
      · rw [va_up_ne _ _ (by omega)]
        exact h j hj
theorem VB_up0 {row : Nat → Int32} {n : Nat} {hi : Int} (h : VB n hi row) (x : Int32) : VB n hi (va_up row 0 x) := fun j hj => by
  rw [va_up_ne _ _ (by omega)]
  exact h j hj
theorem VB_0 {n : Nat} {hi : Int} (hh : 0 ≤ hi) : VB n hi (fun _ => 0) := fun _ _ => ⟨Int.le_refl _, hh⟩
theorem TB_0 {n : Nat} {hi : Int} (hh : 0 ≤ hi) : TB n hi (fun _ => 0) := ⟨⟨Int.le_refl _, Int.natCast_nonneg n⟩, VB_0 hh⟩
theorem below_bd {ρ : Nat → Int32} {n : Nat} {hi : Int} (hn : n ≤ 1000) (hh : 0 ≤ hi) (h : VB n hi ρ) (key : Int32) : 0 ≤ (S_X6_valueBelow ρ n key).toInt ∧ (S_X6_valueBelow ρ n key).toInt ≤ hi := by
  unfold S_X6_valueBelow
  generalize S_X6_indexBelow ρ n key = i
  by_cases c : 0 ≤ i
  · rw [if_pos c]; exact at_bd hn hh h i
  · rw [if_neg c]; exact ⟨Int.le_refl _, hh⟩
theorem insert_bd {ρ : Nat → Int32} {n : Nat} {hi : Int} {i key v : Int32} (hn : n ≤ 1000) (hh : 0 ≤ hi) (hv : 0 ≤ v.toInt ∧ v.toInt ≤ hi) : ∀ (fu : Nat) (k : Int32) (ρ1 : Nat → Int32), VB n hi ρ1 → 0 ≤ (ρ1 0).toInt → (ρ1 0).toInt < n → TB n hi (L_X6_insert_6 fu ρ n i key v k ρ1) := by
  intro fu
  induction fu with
  | zero => intro _ _ _ _ _; exact TB_0 hh
  | succ fu ih =>
    intro k ρ1 h1 h2 h3
    unfold L_X6_insert_6
    by_cases c : k ≤ i
    · rw [if_pos c]
      dsimp only
      refine ⟨?_, VB_up0 (put_vals (put_keys h1 _ _) _ hv) _⟩
      rw [va_up_self, S_put_lo (by decide), S_put_lo (by decide), ta (b := 1) (by show -2147483648 ≤ (ρ1 0).toInt + 1; omega) (by show (ρ1 0).toInt + 1 < 2147483648; omega)]
      show 0 ≤ (ρ1 0).toInt + 1 ∧ (ρ1 0).toInt + 1 ≤ n
      omega
    · rw [if_neg c]
      dsimp only
      have w := put_keys h1 k (S_at ρ1 1 2 n (k - 1))
      have w0 : S_put ρ1 1 2 n k (S_at ρ1 1 2 n (k - 1)) 0 = ρ1 0 := S_put_lo (by decide)
      generalize S_put ρ1 1 2 n k (S_at ρ1 1 2 n (k - 1)) = r at w w0 ⊢
      refine ih _ _ (put_vals w _ (at_bd hn hh w _)) ?_ ?_
      · rw [S_put_lo (by decide), w0]; exact h2
      · rw [S_put_lo (by decide), w0]; exact h3
theorem set_bd {ρ : Nat → Int32} {n : Nat} {hi : Int} {key v : Int32} (hn : n ≤ 1000) (hh : 0 ≤ hi) (hv : 0 ≤ v.toInt ∧ v.toInt ≤ hi) (h : TB n hi ρ) : TB n hi (S_X6_set ρ n key v) := by
  unfold S_X6_set
  generalize S_X6_indexBelow ρ n key = ix
  have ins : TB n hi (if Int32.ofNat n ≤ ρ 0 then ρ else S_X6_insert ρ n (ix + 1) key v) := by
    by_cases d : Int32.ofNat n ≤ ρ 0
    · rw [if_pos d]; exact h
    · rw [if_neg d]
      have b := nle d
      rw [n_of hn] at b
      exact insert_bd hn hh hv _ _ _ h.2 h.1.1 b
  by_cases c : ix < 0
  · rw [if_pos c]; exact ins
  · rw [if_neg c]
    by_cases d : S_at ρ 1 2 n ix = key
    · rw [if_pos d]
      exact ⟨by rw [S_put_lo (by decide)]; exact h.1, put_vals h.2 _ hv⟩
    · rw [if_neg d]; exact ins
theorem index_none {ρ : Nat → Int32} {n : Nat} {key : Int32} (h : (ρ 0).toInt ≤ 0) : S_X6_indexBelow ρ n key = -1 := by
  unfold S_X6_indexBelow L_X6_indexBelow_4
  rw [if_pos (Int32.le_iff_toInt_le.mpr h)]
theorem has_size {ρ : Nat → Int32} {n : Nat} {key : Int32} (h : ¬ S_X6_has ρ n key = 0) : 1 ≤ (ρ 0).toInt := by
  rcases Int.lt_or_le (ρ 0).toInt 1 with c | c
  · refine absurd ?_ h
    unfold S_X6_has
    rw [index_none (by omega), if_pos (by decide)]
  · exact c
theorem remove_bd {ρ : Nat → Int32} {n : Nat} {hi : Int} {key : Int32} (hn : n ≤ 1000) (hh : 0 ≤ hi) : ∀ (fu : Nat) (k : Int32) (ρ1 : Nat → Int32), VB n hi ρ1 → 1 ≤ (ρ1 0).toInt → (ρ1 0).toInt ≤ n → TB n hi (L_X6_remove_15 fu ρ n key k ρ1) := by
  intro fu
  induction fu with
  | zero => intro _ _ _ _ _; exact TB_0 hh
  | succ fu ih =>
    intro k ρ1 h1 h2 h3
    unfold L_X6_remove_15
    by_cases c : ρ1 0 - 1 ≤ k
    · rw [if_pos c]
      refine ⟨?_, VB_up0 h1 _⟩
      rw [va_up_self, tsu (b := 1) (by show -2147483648 ≤ (ρ1 0).toInt - 1; omega) (by show (ρ1 0).toInt - 1 < 2147483648; omega)]
      show 0 ≤ (ρ1 0).toInt - 1 ∧ (ρ1 0).toInt - 1 ≤ n
      omega
    · rw [if_neg c]
      dsimp only
      have w := put_keys h1 k (S_at ρ1 1 2 n (k + 1))
      have w0 : S_put ρ1 1 2 n k (S_at ρ1 1 2 n (k + 1)) 0 = ρ1 0 := S_put_lo (by decide)
      generalize S_put ρ1 1 2 n k (S_at ρ1 1 2 n (k + 1)) = r at w w0 ⊢
      refine ih _ _ (put_vals w _ (at_bd hn hh w _)) ?_ ?_
      · rw [S_put_lo (by decide), w0]; exact h2
      · rw [S_put_lo (by decide), w0]; exact h3
theorem rem_bd {ρ : Nat → Int32} {n : Nat} {hi : Int} {key : Int32} (hn : n ≤ 1000) (hh : 0 ≤ hi) (h : TB n hi ρ) : TB n hi (S_X6_remove ρ n key) := by
  unfold S_X6_remove
  by_cases c : S_X6_has ρ n key = 0
  · rw [if_pos c]; exact h
  · rw [if_neg c]
    exact remove_bd hn hh _ _ _ h.2 (has_size c) h.1.2
/-- a table copied whole, as far as it is used -/
theorem S_copy_2 {a b : Nat → Int32} {o n k : Nat} : S_copy a b o 2 n k = if o ≤ k ∧ (k - o) % 2 = 0 ∧ (k - o) / 2 < n then a k else b k := rfl
theorem tab_copy {a b : Nat → Int32} {n k : Nat} (hn : n ≤ 1000) (h0 : (b 0).toInt ≤ n) (hk : k ≤ 2 * n) : S_X6_copyFrom a b n k = b k := by
  unfold S_X6_copyFrom
  simp only [va_up, S_copy_2]
  by_cases c : k = 0
  · rw [if_pos c]
    subst c
    unfold S_J9_min_7cf53
    rw [if_neg]
    intro d
    have := Int32.lt_iff_toInt_lt.mp d
    rw [n_of hn] at this
    omega
  · rw [if_neg c]
    by_cases d : 2 ≤ k ∧ (k - 2) % 2 = 0 ∧ (k - 2) / 2 < n
    · rw [if_pos d]
    · rw [if_neg d, if_pos (by omega)]
theorem TB_congr {n : Nat} {hi : Int} {a b : Nat → Int32} (h : ∀ k, k ≤ 2 * n → a k = b k) (hb : TB n hi b) : TB n hi a := by
  refine ⟨by rw [h 0 (by omega)]; exact hb.1, fun j hj => ?_⟩
  rw [h _ (by omega)]
  exact hb.2 j hj
