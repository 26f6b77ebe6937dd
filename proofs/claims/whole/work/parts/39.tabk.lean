/-- a good table: its size, its ascending keys, its keys' and values' bounds -/
def GT (f : Nat → Int32) (n m : Nat) (ku vl vu : Int) : Prop := (f 0).toInt = m ∧ m ≤ n ∧ ASC (fun j => (f (1 + 2 * j)).toInt) m ∧ (∀ j, j < m → 0 ≤ (f (1 + 2 * j)).toInt ∧ (f (1 + 2 * j)).toInt ≤ ku) ∧ ∀ j, j < m → vl ≤ (f (2 + 2 * j)).toInt ∧ (f (2 + 2 * j)).toInt ≤ vu
theorem INS_key (f : Nat → Int32) (a : Prop) [Decidable a] (p m : Nat) (key v : Int32) (j : Nat) : INS f a p m key v (1 + 2 * j) = if j = p then key else if a then f (1 + 2 * j) else if p < j ∧ j ≤ m then f (1 + 2 * (j - 1)) else f (1 + 2 * j) := by
  unfold INS
  repeat' split
  all_goals first | rfl | omega | (congr 1; omega)
theorem INS_val (f : Nat → Int32) (a : Prop) [Decidable a] (p m : Nat) (key v : Int32) (j : Nat) : INS f a p m key v (2 + 2 * j) = if j = p then v else if a then f (2 + 2 * j) else if p < j ∧ j ≤ m then f (2 + 2 * (j - 1)) else f (2 + 2 * j) := by
  unfold INS
  repeat' split
  all_goals first | rfl | omega | (congr 1; omega)
theorem INS_0 (f : Nat → Int32) (a : Prop) [Decidable a] (p m : Nat) (key v : Int32) : INS f a p m key v 0 = if a then f 0 else f 0 + 1 := by
  unfold INS
  rw [if_neg (by omega), if_neg (by omega), if_pos rfl]
theorem INS_far {f : Nat → Int32} {a : Prop} [Decidable a] {p m : Nat} {key v : Int32} {j : Nat} (h1 : 2 + 2 * p < j) (h2 : ¬ a → 2 + 2 * m < j) : INS f a p m key v j = f j := by
  unfold INS
  rw [if_neg (by omega), if_neg (by omega)]
  by_cases c : a
  · rw [if_pos c]
  · have := h2 c
    rw [if_neg c, if_neg (by omega), if_neg (by omega)]
theorem INS_agree {f g : Nat → Int32} {a b : Prop} [Decidable a] [Decidable b] {p m : Nat} {key v : Int32} (hab : a ↔ b) (hpm : p ≤ m) (h : ∀ j, j ≤ 2 * m → f j = g j) {j : Nat} (hj : j ≤ 2 * (if a then m else m + 1)) : INS f a p m key v j = INS g b p m key v j := by
  by_cases c : a
  · rw [if_pos c] at hj
    unfold INS
    rw [if_pos c, if_pos (hab.mp c), h j hj]
  · rw [if_neg c] at hj
    unfold INS
    rw [if_neg c, if_neg (fun q => c (hab.mpr q)), h 0 (by omega)]
    by_cases h1 : j = 2 + 2 * p
    · rw [if_pos h1, if_pos h1]
    · rw [if_neg h1, if_neg h1]
      by_cases h2 : j = 1 + 2 * p
      · rw [if_pos h2, if_pos h2]
      · rw [if_neg h2, if_neg h2]
        by_cases h3 : j = 0
        · rw [if_pos h3, if_pos h3]
        · rw [if_neg h3, if_neg h3]
          by_cases h4 : 2 + 2 * p < j ∧ j ≤ 2 + 2 * m
          · rw [if_pos h4, if_pos h4, h _ (by omega)]
          · rw [if_neg h4, if_neg h4, h _ (by omega)]
theorem INS_good {f : Nat → Int32} {n m p : Nat} {ku vl vu : Int} {key v : Int32} {a : Prop} [Decidable a] (hn : n ≤ 1000) (h : GT f n m ku vl vu) (hp : IP (fun j => (f (1 + 2 * j)).toInt) m key.toInt p) (ha : a ↔ p < m ∧ f (1 + 2 * p) = key) (hr : m < n ∨ a) (hk : 0 ≤ key.toInt ∧ key.toInt ≤ ku) (hv : vl ≤ v.toInt ∧ v.toInt ≤ vu) : GT (INS f a p m key v) n (if a then m else m + 1) ku vl vu := by
  obtain ⟨g1, g2, g3, g4, g5⟩ := h
  obtain ⟨p1, p2, p3⟩ := hp
  by_cases c : a
  · rw [if_pos c]
    have c2 := ha.mp c
    have kk : ∀ j, INS f a p m key v (1 + 2 * j) = f (1 + 2 * j) := fun j => by
      rw [INS_key]
      by_cases e : j = p
      · rw [if_pos e, e, c2.2]
      · rw [if_neg e, if_pos c]
    refine ⟨by rw [INS_0, if_pos c]; exact g1, g2, fun j hj => ?_, fun j hj => ?_, fun j hj => ?_⟩
    · show (INS f a p m key v (1 + 2 * j)).toInt < (INS f a p m key v (1 + 2 * (j + 1))).toInt
      rw [kk, kk]; exact g3 j hj
    · rw [kk]; exact g4 j hj
    · rw [INS_val]
      by_cases e : j = p
      · rw [if_pos e]; exact hv
      · rw [if_neg e, if_pos c]; exact g5 j hj
  · rw [if_neg c]
    have hmn : m < n := hr.resolve_right c
    have c2 : p < m → key.toInt < (f (1 + 2 * p)).toInt := fun q => by
      have h1 := p3 q
      have h2 : (f (1 + 2 * p)).toInt ≠ key.toInt := fun e => c (ha.mpr ⟨q, i32n.mp e⟩)
      dsimp only at h1
      omega
    refine ⟨by rw [INS_0, if_neg c]; exact k_up g1 (by omega), hmn, fun j hj => ?_, fun j hj => ?_, fun j hj => ?_⟩
    · show (INS f a p m key v (1 + 2 * j)).toInt < (INS f a p m key v (1 + 2 * (j + 1))).toInt
      rw [INS_key, INS_key, if_neg c, if_neg c]
      by_cases e : j = p
      · subst e
        rw [if_pos rfl, if_neg (by omega), if_pos (by omega)]
        exact c2 (by omega)
      · rw [if_neg e]
        by_cases e2 : j + 1 = p
        · rw [if_neg (by omega), if_pos e2]
          exact p2 j (by omega)
        · rw [if_neg e2]
          by_cases e3 : p < j ∧ j ≤ m
          · rw [if_pos e3, if_pos (by omega)]
            have := g3 (j - 1) (by omega)
            rwa [show j - 1 + 1 = j + 1 - 1 by omega] at this
          · rw [if_neg e3, if_neg (by omega)]
            exact g3 j (by omega)
    · rw [INS_key, if_neg c]
      by_cases e : j = p
      · rw [if_pos e]; exact hk
      · rw [if_neg e]
        by_cases e3 : p < j ∧ j ≤ m
        · rw [if_pos e3]; exact g4 _ (by omega)
        · rw [if_neg e3]; exact g4 _ (by omega)
    · rw [INS_val, if_neg c]
      by_cases e : j = p
      · rw [if_pos e]; exact hv
      · rw [if_neg e]
        by_cases e3 : p < j ∧ j ≤ m
        · rw [if_pos e3]; exact g5 _ (by omega)
        · rw [if_neg e3]; exact g5 _ (by omega)
theorem OUT_key (f : Nat → Int32) (p m : Nat) (j : Nat) : OUT f p m (1 + 2 * j) = if p ≤ j ∧ j < m - 1 then f (1 + 2 * (j + 1)) else f (1 + 2 * j) := by
  unfold OUT
  repeat' split
  all_goals first | rfl | omega | (congr 1; omega)
theorem OUT_val (f : Nat → Int32) (p m : Nat) (j : Nat) : OUT f p m (2 + 2 * j) = if p ≤ j ∧ j < m - 1 then f (2 + 2 * (j + 1)) else f (2 + 2 * j) := by
  unfold OUT
  repeat' split
  all_goals first | rfl | omega | (congr 1; omega)
theorem OUT_far {f : Nat → Int32} {p m j : Nat} (h : 2 * m < j) : OUT f p m j = f j := by
  unfold OUT
  rw [if_neg (by omega), if_neg (by omega)]
theorem OUT_agree {f g : Nat → Int32} {p m : Nat} (h : ∀ j, j ≤ 2 * (m + 1) → f j = g j) {j : Nat} (hj : j ≤ 2 * m) : OUT f p (m + 1) j = OUT g p (m + 1) j := by
  unfold OUT
  rw [h 0 (by omega), h j (by omega)]
  by_cases h1 : j = 0
  · rw [if_pos h1, if_pos h1]
  · rw [if_neg h1, if_neg h1]
    by_cases h2 : 1 + 2 * p ≤ j ∧ j < 1 + 2 * (m + 1 - 1)
    · rw [if_pos h2, if_pos h2, h _ (by omega)]
    · rw [if_neg h2, if_neg h2]
theorem OUT_good {f : Nat → Int32} {n m p : Nat} {ku vl vu : Int} (hn : n ≤ 1000) (h : GT f n (m + 1) ku vl vu) (hp : p < m + 1) : GT (OUT f p (m + 1)) n m ku vl vu := by
  obtain ⟨g1, g2, g3, g4, g5⟩ := h
  refine ⟨?_, by omega, fun j hj => ?_, fun j hj => ?_, fun j hj => ?_⟩
  · unfold OUT
    rw [if_pos rfl]
    exact (k_dn g1 (by omega)).1
  · show (OUT f p (m + 1) (1 + 2 * j)).toInt < (OUT f p (m + 1) (1 + 2 * (j + 1))).toInt
    rw [OUT_key, OUT_key]
    by_cases e : p ≤ j ∧ j < m + 1 - 1
    · rw [if_pos e, if_pos (by omega)]
      exact g3 (j + 1) (by omega)
    · rw [if_neg e]
      by_cases e2 : p ≤ j + 1 ∧ j + 1 < m + 1 - 1
      · rw [if_pos e2]
        exact Int.lt_trans (g3 j (by omega)) (g3 (j + 1) (by omega))
      · rw [if_neg e2]
        exact g3 j (by omega)
  · rw [OUT_key]
    by_cases e : p ≤ j ∧ j < m + 1 - 1
    · rw [if_pos e]; exact g4 _ (by omega)
    · rw [if_neg e]; exact g4 _ (by omega)
  · rw [OUT_val]
    by_cases e : p ≤ j ∧ j < m + 1 - 1
    · rw [if_pos e]; exact g5 _ (by omega)
    · rw [if_neg e]; exact g5 _ (by omega)
theorem GT_TB {f : Nat → Int32} {n m : Nat} {ku vl vu : Int} (h : GT f n m ku vl vu) : TB f n m := ⟨h.1, h.2.1, h.2.2.1⟩
theorem GT_agree {f g : Nat → Int32} {n m : Nat} {ku vl vu : Int} (hfg : ∀ j, j ≤ 2 * m → g j = f j) (h : GT f n m ku vl vu) : GT g n m ku vl vu := by
  obtain ⟨g1, g2, g3, g4, g5⟩ := h
  refine ⟨by rw [hfg 0 (by omega)]; exact g1, g2, fun j hj => ?_, fun j hj => ?_, fun j hj => ?_⟩
  · show (g (1 + 2 * j)).toInt < (g (1 + 2 * (j + 1))).toInt
    rw [hfg _ (by omega), hfg _ (by omega)]; exact g3 j hj
  · rw [hfg _ (by omega)]; exact g4 j hj
  · rw [hfg _ (by omega)]; exact g5 j hj
