/-- insertion and removal in a table's own layout -/
def INS (f : Nat → Int32) (at' : Prop) [Decidable at'] (p m : Nat) (key v : Int32) (j : Nat) : Int32 := if j = 2 + 2 * p then v else if j = 1 + 2 * p then key else if at' then f j else if j = 0 then f 0 + 1 else if 2 + 2 * p < j ∧ j ≤ 2 + 2 * m then f (j - 2) else f j
def OUT (f : Nat → Int32) (p m : Nat) (j : Nat) : Int32 := if j = 0 then f 0 - 1 else if 1 + 2 * p ≤ j ∧ j < 1 + 2 * (m - 1) then f (j + 2) else f j
theorem L_insert_pt {ρ : Nat → Int32} {n I : Nat} {i key v : Int32} (ei : i.toInt = I) (hn : n ≤ 1000) : ∀ (fu : Nat) (k : Int32) (K : Nat) (ρ1 : Nat → Int32), k.toInt = K → I ≤ K → K < n → K - I < fu → ∀ j, L_X6_insert_6 fu ρ n i key v k ρ1 j = if j = 2 + 2 * I then v else if j = 1 + 2 * I then key else if j = 0 then ρ1 0 + 1 else if 2 + 2 * I < j ∧ j ≤ 2 + 2 * K then ρ1 (j - 2) else ρ1 j := by
  intro fu
  induction fu with
  | zero => intro _ _ _ _ _ _ h; exact absurd h (Nat.not_lt_zero _)
  | succ fu ih =>
    intro k K ρ1 hk hI hK hf j
    unfold L_X6_insert_6
    by_cases c : k ≤ i
    · rw [if_pos c]
      have c2 := Int32.le_iff_toInt_le.mp c
      rw [hk, ei] at c2
      have e : K = I := by omega
      rw [S_put_in ei (by omega) hn, S_put_in ei (by omega) hn]
      simp only [va_up]
      by_cases h0 : j = 0
      · rw [if_pos h0, if_neg (by omega), if_neg (by omega), if_pos h0, if_neg (by omega), if_neg (by omega)]
      · rw [if_neg h0]
        by_cases h1 : j = 2 + 2 * I
        · rw [if_pos h1, if_pos h1]
        · rw [if_neg h1, if_neg h1]
          by_cases h2 : j = 1 + 2 * I
          · rw [if_pos h2, if_pos h2]
          · rw [if_neg h2, if_neg h2, if_neg h0, if_neg (by omega)]
    · rw [if_neg c]
      have c2 := nle c
      rw [hk, ei] at c2
      obtain ⟨K', rfl⟩ : ∃ K', K = K' + 1 := ⟨K - 1, by omega⟩
      obtain ⟨d1, d2⟩ := k_dn hk (by omega)
      rw [S_put_in hk hK hn, S_put_in hk hK hn, S_at_in d1 (by omega) hn, S_at_in d1 (by omega) hn, ih _ _ _ d2 (by omega) (by omega) (by omega) j]
      clear ih hk d1 d2 c ei
      simp only [va_up]
      repeat' split
      all_goals first | rfl | omega | (congr 1; omega)
theorem L_remove_pt {ρ : Nat → Int32} {n m : Nat} {key : Int32} (hm : m + 1 ≤ n) (hn : n ≤ 1000) : ∀ (fu : Nat) (k : Int32) (K : Nat) (ρ1 : Nat → Int32), (ρ1 0).toInt = ((m + 1 : Nat) : Int) → k.toInt = K → K ≤ m → m - K < fu → ∀ j, L_X6_remove_15 fu ρ n key k ρ1 j = if j = 0 then ρ1 0 - 1 else if 1 + 2 * K ≤ j ∧ j < 1 + 2 * m then ρ1 (j + 2) else ρ1 j := by
  intro fu
  induction fu with
  | zero => intro _ _ _ _ _ _ h; exact absurd h (Nat.not_lt_zero _)
  | succ fu ih =>
    intro k K ρ1 hs hk hK hf j
    unfold L_X6_remove_15
    have hs1 := (k_dn hs (by omega)).1
    by_cases c : ρ1 0 - 1 ≤ k
    · rw [if_pos c]
      have c2 := Int32.le_iff_toInt_le.mp c
      rw [hk, hs1] at c2
      simp only [va_up]
      by_cases h0 : j = 0
      · rw [if_pos h0, if_pos h0]
      · rw [if_neg h0, if_neg h0, if_neg (by omega)]
    · rw [if_neg c]
      have c2 := nle c
      rw [hk, hs1] at c2
      have hk1 := k_up hk (by omega)
      rw [S_put_in hk (by omega) hn, S_put_in hk (by omega) hn, S_at_in hk1 (by omega) hn, S_at_in hk1 (by omega) hn]
      rw [ih _ (K + 1) _ (by rw [va_up_ne _ _ (by omega), va_up_ne _ _ (by omega)]; exact hs) hk1 (by omega) (by omega) j]
      clear ih hs hs1 hk hk1 c
      simp only [va_up]
      repeat' split
      all_goals first | rfl | omega | (congr 1; omega)
/-- the class's table by its place -/
theorem i32n {x y : Int32} : x.toInt = y.toInt ↔ x = y := Int32.toInt_inj
def TB (ρ : Nat → Int32) (n m : Nat) : Prop := (ρ 0).toInt = m ∧ m ≤ n ∧ ASC (fun j => (ρ (1 + 2 * j)).toInt) m
theorem below_pt {ρ : Nat → Int32} {n m p : Nat} {key : Int32} (T : TB ρ n m) (hn : n ≤ 1000) (hp : IP (fun j => (ρ (1 + 2 * j)).toInt) m key.toInt p) : (S_X6_indexBelow ρ n key).toInt = (if p < m ∧ ρ (1 + 2 * p) = key then (p : Int) else (p : Int) - 1) := by
  obtain ⟨P, e, hP⟩ := below_ip (key := key) T.1 T.2.1 hn
  rw [e]
  have q := IP_uniq hP (IP_next T.2.2 hp)
  rw [q]
  by_cases c : p < m ∧ ρ (1 + 2 * p) = key
  · rw [if_pos c, if_pos ⟨c.1, i32n.mpr c.2⟩]
    omega
  · rw [if_neg c, if_neg (fun d => c ⟨d.1, i32n.mp d.2⟩)]
theorem neg_i {x : Int32} (h : x.toInt = -1) : x < 0 := Int32.lt_iff_toInt_lt.mpr (by rw [h]; decide)
theorem not_neg_i {x : Int32} {K : Nat} (h : x.toInt = K) : ¬ x < 0 := fun c => by
  have := Int32.lt_iff_toInt_lt.mp c
  rw [h] at this
  have e : (0 : Int32).toInt = 0 := rfl
  omega
theorem has_pt {ρ : Nat → Int32} {n m p : Nat} {key : Int32} (T : TB ρ n m) (hn : n ≤ 1000) (hp : IP (fun j => (ρ (1 + 2 * j)).toInt) m key.toInt p) : S_X6_has ρ n key = if p < m ∧ ρ (1 + 2 * p) = key then 1 else 0 := by
  have e := below_pt T hn hp
  have hl := T.2.1
  have ha := hp.2.1
  have hpm := hp.1
  unfold S_X6_has
  generalize S_X6_indexBelow ρ n key = b at e ⊢
  by_cases c : p < m ∧ ρ (1 + 2 * p) = key
  · rw [if_pos c] at e ⊢
    rw [if_neg (not_neg_i e), S_at_in e (by omega) hn, if_pos c.2]
  · rw [if_neg c] at e ⊢
    cases p with
    | zero => rw [if_pos (neg_i e)]
    | succ q =>
      have e2 : b.toInt = (q : Int) := by rw [e]; omega
      rw [if_neg (not_neg_i e2), S_at_in e2 (by omega) hn, if_neg]
      intro d
      have := ha q (by omega)
      rw [← d] at this
      exact absurd this (Int.lt_irrefl _)
theorem room_pt {ρ : Nat → Int32} {n m p : Nat} {key : Int32} (T : TB ρ n m) (hn : n ≤ 1000) (hp : IP (fun j => (ρ (1 + 2 * j)).toInt) m key.toInt p) : S_X6_hasRoomFor ρ n key = if m < n ∨ (p < m ∧ ρ (1 + 2 * p) = key) then 1 else 0 := by
  unfold S_X6_hasRoomFor
  rw [has_pt T hn hp]
  by_cases c : m < n
  · rw [if_pos (Int32.lt_iff_toInt_lt.mpr (by rw [n_of hn, T.1]; omega)), if_pos (Or.inl c)]
  · rw [if_neg (fun d => c (by have := Int32.lt_iff_toInt_lt.mp d; rw [n_of hn, T.1] at this; omega))]
    by_cases d : p < m ∧ ρ (1 + 2 * p) = key
    · rw [if_pos d, if_neg (by decide), if_pos (Or.inr d)]
    · rw [if_neg d, if_pos rfl, if_neg (fun q => q.elim c d)]
theorem set_pt {ρ : Nat → Int32} {n m p : Nat} {key v : Int32} (T : TB ρ n m) (hn : n ≤ 1000) (hp : IP (fun j => (ρ (1 + 2 * j)).toInt) m key.toInt p) (hr : m < n ∨ (p < m ∧ ρ (1 + 2 * p) = key)) : S_X6_set ρ n key v = INS ρ (p < m ∧ ρ (1 + 2 * p) = key) p m key v := by
  have e := below_pt T hn hp
  have hl := T.2.1
  have ha := hp.2.1
  have hpm := hp.1
  have hs := T.1
  unfold S_X6_set
  generalize S_X6_indexBelow ρ n key = b at e ⊢
  by_cases c : p < m ∧ ρ (1 + 2 * p) = key
  · rw [if_pos c] at e
    rw [if_neg (not_neg_i e), S_at_in e (by omega) hn, if_pos c.2, S_put_in e (by omega) hn]
    funext j
    unfold INS va_up
    by_cases h1 : j = 2 + 2 * p
    · rw [if_pos h1, if_pos h1]
    · rw [if_neg h1, if_neg h1, if_pos c]
      by_cases h2 : j = 1 + 2 * p
      · rw [if_pos h2, h2, c.2]
      · rw [if_neg h2]
  · rw [if_neg c] at e
    have hmn : m < n := hr.resolve_right c
    have nf : ¬ Int32.ofNat n ≤ ρ 0 := fun d => by
      have := Int32.le_iff_toInt_le.mp d
      rw [n_of hn, hs] at this
      omega
    have e1 : (b + 1).toInt = (p : Int) := by
      rw [ta (b := 1) (by rw [e]; show -2147483648 ≤ (p : Int) - 1 + 1; omega) (by rw [e]; show (p : Int) - 1 + 1 < 2147483648; omega), e]
      show (p : Int) - 1 + 1 = p
      omega
    have main : S_X6_insert ρ n (b + 1) key v = INS ρ (p < m ∧ ρ (1 + 2 * p) = key) p m key v := by
      funext j
      unfold S_X6_insert
      rw [L_insert_pt e1 hn _ _ _ _ hs hpm hmn (by rw [hs, e1]; omega) j]
      unfold INS
      rw [if_neg c]
    cases p with
    | zero => rw [if_pos (neg_i e), if_neg nf, main]
    | succ q =>
      have e2 : b.toInt = (q : Int) := by rw [e]; omega
      rw [if_neg (not_neg_i e2), S_at_in e2 (by omega) hn, if_neg, if_neg nf, main]
      intro d
      have := ha q (by omega)
      rw [← d] at this
      exact absurd this (Int.lt_irrefl _)
theorem remove_pt {ρ : Nat → Int32} {n m p : Nat} {key : Int32} (T : TB ρ n m) (hn : n ≤ 1000) (hp : IP (fun j => (ρ (1 + 2 * j)).toInt) m key.toInt p) (hr : p < m ∧ ρ (1 + 2 * p) = key) : S_X6_remove ρ n key = OUT ρ p m := by
  have e := below_pt T hn hp
  have hl := T.2.1
  have hs := T.1
  unfold S_X6_remove
  rw [has_pt T hn hp, if_pos hr, if_neg (by decide)]
  rw [if_pos hr] at e
  generalize S_X6_indexBelow ρ n key = b at e ⊢
  obtain ⟨m', rfl⟩ : ∃ m', m = m' + 1 := ⟨m - 1, by omega⟩
  funext j
  rw [L_remove_pt (m := m') (by omega) hn _ _ _ _ hs e (by omega) (by rw [(k_dn hs (by omega)).1, e]; omega) j]
  unfold OUT
  rw [Nat.add_sub_cancel]
