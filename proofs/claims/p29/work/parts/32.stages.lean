/-! THE ROASTER'S ROW: ranges of single places, and how some hang together -/
def rlo (k : Nat) : Int := match k with
  | 0 => 0 | 1 => 0 | 2 => -1000 | 3 => 0 | 4 => -1000 | 5 => 1 | 6 => 0 | 7 => 0 | 8 => 1 | 13 => -20000 | 14 => 0 | 16 => -1000 | 17 => 0 | 18 => 0 | 19 => 0 | 20 => 0
  | 26 => 0 | 27 => 0 | 28 => 0 | 29 => 0 | 30 => 0 | 31 => 0 | _ => -2147483648
def rhi (k : Nat) : Int := match k with
  | 0 => 10000 | 1 => 2 | 2 => 5000 | 3 => 400 | 4 => 5000 | 5 => 60 | 6 => 5 | 7 => 100 | 8 => 50 | 13 => 20000 | 14 => 3000 | 16 => 5000 | 17 => 1000 | 18 => 10000 | 19 => 10000000 | 20 => 1000
  | 26 => 1000 | 27 => 1000 | 28 => 1000 | 29 => 1000 | 30 => 1000 | 31 => 1000 | _ => 2147483647
def BD (ρ : Nat → Int32) : Prop := ∀ k, k < 32 → rlo k ≤ (ρ k).toInt ∧ (ρ k).toInt ≤ rhi k
theorem BD_up {ρ : Nat → Int32} {k : Nat} {v : Int32} (h : BD ρ) (h1 : rlo k ≤ v.toInt) (h2 : v.toInt ≤ rhi k) : BD (va_up ρ k v) := fun j hj => by
  by_cases c : j = k
  · rw [c, va_up_self]; exact ⟨h1, h2⟩
  · rw [va_up_ne _ _ c]; exact h j hj
theorem i32 (x : Int32) : -2147483648 ≤ x.toInt ∧ x.toInt ≤ 2147483647 := ⟨Int32.le_toInt x, by have := Int32.toInt_lt x; omega⟩
def RQ (d e : Int) (x0 x1 x16 x18 x19 x20 x23 x24 x25 x26 x27 x28 x29 x30 x31 : Int32) : Prop :=
  x18.toInt ≤ x0.toInt ∧ x19.toInt ≤ 999 * (x18.toInt - d) ∧ (x1 = 1 → x16.toInt ≤ x25.toInt) ∧ x26.toInt + x27.toInt + x28.toInt + x29.toInt + x30.toInt + x31.toInt ≤ x20.toInt ∧ (x23 = -100009 ∨ (1 ≤ x23.toInt ∧ x23.toInt ≤ x18.toInt - e)) ∧ (x24 = -100009 ∨ (1 ≤ x23.toInt ∧ x23.toInt < x24.toInt))
def WQ (d e : Int) (ρ : Nat → Int32) : Prop := RQ d e (ρ 0) (ρ 1) (ρ 16) (ρ 18) (ρ 19) (ρ 20) (ρ 23) (ρ 24) (ρ 25) (ρ 26) (ρ 27) (ρ 28) (ρ 29) (ρ 30) (ρ 31)
def WT (d e : Int) (ρ : Nat → Int32) : Prop := BD ρ ∧ WQ d e ρ
theorem WT_up {d e : Int} {ρ : Nat → Int32} {k : Nat} {v : Int32} (h : WT d e ρ) (hk : k ≠ 0 ∧ k ≠ 1 ∧ k ≠ 16 ∧ k ≠ 18 ∧ k ≠ 19 ∧ k ≠ 20 ∧ k ≠ 23 ∧ k ≠ 24 ∧ k ≠ 25 ∧ k ≠ 26 ∧ k ≠ 27 ∧ k ≠ 28 ∧ k ≠ 29 ∧ k ≠ 30 ∧ k ≠ 31) (h1 : rlo k ≤ v.toInt) (h2 : v.toInt ≤ rhi k) : WT d e (va_up ρ k v) := by
  refine ⟨BD_up h.1 h1 h2, ?_⟩
  obtain ⟨k0, k1, k16, k18, k19, k20, k23, k24, k25, k26, k27, k28, k29, k30, k31⟩ := hk
  unfold WQ
  rw [va_up_ne _ _ (Ne.symm k0), va_up_ne _ _ (Ne.symm k1), va_up_ne _ _ (Ne.symm k16), va_up_ne _ _ (Ne.symm k18), va_up_ne _ _ (Ne.symm k19), va_up_ne _ _ (Ne.symm k20), va_up_ne _ _ (Ne.symm k23), va_up_ne _ _ (Ne.symm k24), va_up_ne _ _ (Ne.symm k25), va_up_ne _ _ (Ne.symm k26), va_up_ne _ _ (Ne.symm k27), va_up_ne _ _ (Ne.symm k28), va_up_ne _ _ (Ne.symm k29), va_up_ne _ _ (Ne.symm k30), va_up_ne _ _ (Ne.symm k31)]
  exact h.2
theorem WT_steer {d e : Int} {ρ π : Nat → Int32} (h : WT d e ρ) : WT d e (S_X4_steer ρ π) := by
  unfold S_X4_steer
  generalize S_X6_valueOnLine π 8 (ρ 18) - ρ 4 = t
  split
  · split
    · exact h
    · dsimp only
      obtain ⟨a1, a2⟩ := clamp_b (x := ρ 13 + t) (a := -20000) (b := 20000) (by decide)
      have h3 := WT_up (k := 13) h (by decide) (Int.le_trans (by decide) a1) (Int.le_trans a2 (by decide))
      generalize va_up ρ 13 (S_X9_clamp (ρ 13 + t) (-20000) 20000) = r at h3 ⊢
      obtain ⟨b1, b2⟩ := clamp_b (x := r 12 + S_J9_floorDiv_7cf53 (r 10 * t) 100 + S_J9_floorDiv_7cf53 (r 11 * r 13) 1000) (a := 0) (b := 100) (by decide)
      exact WT_up (k := 7) h3 (by decide) (Int.le_trans (by decide) b1) (Int.le_trans b2 (by decide))
  · exact h
theorem steer_fr {ρ π : Nat → Int32} {k : Nat} (h1 : k ≠ 13) (h2 : k ≠ 7) : S_X4_steer ρ π k = ρ k := by
  unfold S_X4_steer
  generalize S_X6_valueOnLine π 8 (ρ 18) - ρ 4 = t
  repeat' split
  all_goals first | rfl | (dsimp only; rw [va_up_ne _ _ h2, va_up_ne _ _ h1])
theorem WT_drum {d e : Int} {ρ : Nat → Int32} (h : WT d e ρ) : WT d e (S_X4_moveDrum ρ) := by
  unfold S_X4_moveDrum
  have b2 : -1000 ≤ (ρ 2).toInt ∧ (ρ 2).toInt ≤ 5000 := h.1 2 (by decide)
  have b3 : 0 ≤ (ρ 3).toInt ∧ (ρ 3).toInt ≤ 400 := h.1 3 (by decide)
  have b7 : 0 ≤ (ρ 7).toInt ∧ (ρ 7).toInt ≤ 100 := h.1 7 (by decide)
  have b16 : -1000 ≤ (ρ 16).toInt ∧ (ρ 16).toInt ≤ 5000 := h.1 16 (by decide)
  have b17 : 0 ≤ (ρ 17).toInt ∧ (ρ 17).toInt ≤ 1000 := h.1 17 (by decide)
  rw [fd_dn (b := 5) (by decide), fd_dn (b := 10) (by decide)]
  have e1 := drum1_t (d := ρ 2) (a := ρ 3) (p := ρ 7) b2 b3 b7
  generalize ρ 2 + S_down (8 * ρ 7 - S_down (ρ 2 - ρ 3) 5) 10 = x at e1 ⊢
  (try dsimp only)
  have f1 : va_up ρ 2 x 1 = ρ 1 := rfl
  have f2 : va_up ρ 2 x 2 = x := rfl
  have f16 : va_up ρ 2 x 16 = ρ 16 := rfl
  have f17 : va_up ρ 2 x 17 = ρ 17 := rfl
  rw [f1, f2, f16, f17]
  have q := drum_bd b2 b16 b3 b7 e1 b17 (y := ((ρ 2).toInt - (ρ 16).toInt) * (ρ 17).toInt / 20000) rfl
  by_cases c : ρ 1 = 1
  · rw [if_pos c, va_up_up, fd_dn (b := 20000) (by decide)]
    have e2 : (ρ 2 - ρ 16).toInt = (ρ 2).toInt - (ρ 16).toInt := tsu (by omega) (by omega)
    have e3 := down_ml (x := ρ 2 - ρ 16) (m := ρ 17) (K := 20000) (M := 1000) (D := 20000) (by rw [e2]; omega) b17 (by decide) (by decide) rfl
    rw [e2] at e3
    rw [← e3] at q
    generalize S_down ((ρ 2 - ρ 16) * ρ 17) 20000 = y at q ⊢
    obtain ⟨q0, q1, q2⟩ := q
    have e4 : (x - y).toInt = x.toInt - y.toInt := tsu (by omega) (by omega)
    refine WT_up (k := 2) h (by decide) ?_ ?_
    · rw [e4]; exact q1
    · rw [e4]; exact q2
  · rw [if_neg c]
    exact WT_up (k := 2) h (by decide) q.1.1 q.1.2
theorem drum_fr {ρ : Nat → Int32} {k : Nat} (h : k ≠ 2) : S_X4_moveDrum ρ k = ρ k := by
  unfold S_X4_moveDrum
  (try dsimp only)
  generalize ρ 2 + S_J9_floorDiv_7cf53 (8 * ρ 7 - S_J9_floorDiv_7cf53 (ρ 2 - ρ 3) 5) 10 = x
  split
  · rw [va_up_ne _ _ h, va_up_ne _ _ h]
  · rw [va_up_ne _ _ h]
theorem WT_probe {d e : Int} {ρ : Nat → Int32} (h : WT d e ρ) : WT d e (S_X4_moveProbe ρ) := by
  unfold S_X4_moveProbe
  have b2 : -1000 ≤ (ρ 2).toInt ∧ (ρ 2).toInt ≤ 5000 := h.1 2 (by decide)
  have b4 : -1000 ≤ (ρ 4).toInt ∧ (ρ 4).toInt ≤ 5000 := h.1 4 (by decide)
  have b5 : 1 ≤ (ρ 5).toInt ∧ (ρ 5).toInt ≤ 60 := h.1 5 (by decide)
  have b16 : -1000 ≤ (ρ 16).toInt ∧ (ρ 16).toInt ≤ 5000 := h.1 16 (by decide)
  (try dsimp only)
  have bv : -1000 ≤ (if ρ 1 = 1 then ρ 16 else ρ 2).toInt ∧ (if ρ 1 = 1 then ρ 16 else ρ 2).toInt ≤ 5000 := by
    split
    · exact b16
    · exact b2
  generalize (if ρ 1 = 1 then ρ 16 else ρ 2) = v at bv ⊢
  rw [quo32 (by omega)]
  have e1 : (v - ρ 4).toInt = v.toInt - (ρ 4).toInt := tsu (by omega) (by omega)
  have e2 := dn32 (a := v - ρ 4) (b := ρ 5) (by omega)
  rw [e1] at e2
  have q := dv_bd (v.toInt - (ρ 4).toInt) (B := (ρ 5).toInt) (by omega)
  rw [← e2] at q
  generalize S_down (v - ρ 4) (ρ 5) = y at q ⊢
  have bd : -1000 ≤ (ρ 4).toInt + y.toInt ∧ (ρ 4).toInt + y.toInt ≤ 5000 := by
    rcases Int.le_total 0 (v.toInt - (ρ 4).toInt) with z | z
    · have := q.1 z
      omega
    · have := q.2 z
      omega
  have e3 : (ρ 4 + y).toInt = (ρ 4).toInt + y.toInt := ta (by omega) (by omega)
  refine WT_up (k := 4) h (by decide) ?_ ?_
  · rw [e3]; exact bd.1
  · rw [e3]; exact bd.2
theorem probe_fr {ρ : Nat → Int32} {k : Nat} (h : k ≠ 4) : S_X4_moveProbe ρ k = ρ k := va_up_ne _ _ h
theorem WT_roast {d e : Int} {ρ : Nat → Int32} (h : WT d e ρ) : WT d e (S_X0_roast ρ (ρ 2)) := by
  unfold S_X0_roast
  have b2 : -1000 ≤ (ρ 2).toInt ∧ (ρ 2).toInt ≤ 5000 := h.1 2 (by decide)
  have b16 : -1000 ≤ (ρ 16).toInt ∧ (ρ 16).toInt ≤ 5000 := h.1 16 (by decide)
  rw [fd_dn (b := 20) (by decide)]
  have q := bean_t (b := ρ 16) (D := ρ 2) b16 b2
  generalize ρ 16 + S_down (ρ 2 - ρ 16) 20 = x at q ⊢
  (try dsimp only)
  have f25 : va_up ρ 16 x 25 = ρ 25 := rfl
  have f16 : va_up ρ 16 x 16 = x := rfl
  rw [f25, f16]
  have m := max_t (ρ 25) x
  generalize S_J9_max_7cf53 (ρ 25) x = y at m ⊢
  refine ⟨BD_up (BD_up h.1 q.1 q.2) (i32 y).1 (i32 y).2, ?_⟩
  obtain ⟨q1, q2, q3, q4, q5, q6⟩ := h.2
  refine ⟨q1, q2, fun _ => ?_, q4, q5, q6⟩
  show x.toInt ≤ y.toInt
  split at m <;> omega
theorem roast_fr {ρ : Nat → Int32} {dr : Int32} {k : Nat} (h1 : k ≠ 16) (h2 : k ≠ 25) : S_X0_roast ρ dr k = ρ k := by
  unfold S_X0_roast
  (try dsimp only)
  rw [va_up_ne _ _ h2, va_up_ne _ _ h1]
theorem WT_cool {d e : Int} {ρ : Nat → Int32} (h : WT d e ρ) (hp : ρ 1 = 2) : WT d e (S_X0_cool ρ (ρ 3) (ρ 8)) := by
  unfold S_X0_cool
  have b3 : 0 ≤ (ρ 3).toInt ∧ (ρ 3).toInt ≤ 400 := h.1 3 (by decide)
  have b8 : 1 ≤ (ρ 8).toInt ∧ (ρ 8).toInt ≤ 50 := h.1 8 (by decide)
  have b16 : -1000 ≤ (ρ 16).toInt ∧ (ρ 16).toInt ≤ 5000 := h.1 16 (by decide)
  rw [fd_dn (b := 100) (by decide)]
  have q := cool_t (b := ρ 16) (a := ρ 3) (f := ρ 8) b16 b3 b8
  generalize ρ 16 - S_down ((ρ 16 - ρ 3) * ρ 8) 100 = x at q ⊢
  refine ⟨BD_up h.1 q.1 q.2, ?_⟩
  obtain ⟨q1, q2, q3, q4, q5, q6⟩ := h.2
  refine ⟨q1, q2, fun z => ?_, q4, q5, q6⟩
  have z' : ρ 1 = 1 := z
  rw [hp] at z'
  exact absurd z' (by decide)
theorem cool_fr {ρ : Nat → Int32} {am fa : Int32} {k : Nat} (h : k ≠ 16) : S_X0_cool ρ am fa k = ρ k := va_up_ne _ _ h
/-- how many pop in a tick -/
theorem pops_bd {b ct p : Int32} (hb : -1000 ≤ b.toInt ∧ b.toInt ≤ 5000) (hc : 0 ≤ ct.toInt ∧ ct.toInt ≤ 3000) (hp : 0 ≤ p.toInt ∧ p.toInt ≤ 1000) : 0 ≤ (if b < ct then (0 : Int32) else S_J9_min_7cf53 (S_J9_floorDiv_7cf53 (b - ct) 2 + 1) (1000 - p)).toInt ∧ (if b < ct then (0 : Int32) else S_J9_min_7cf53 (S_J9_floorDiv_7cf53 (b - ct) 2 + 1) (1000 - p)).toInt ≤ 1000 - p.toInt := by
  have e0 : (1000 - p).toInt = 1000 - p.toInt := tsu (a := 1000) (by show -2147483648 ≤ 1000 - p.toInt; omega) (by show 1000 - p.toInt < 2147483648; omega)
  by_cases c : b < ct
  · rw [if_pos c]
    show (0 : Int) ≤ 0 ∧ (0 : Int) ≤ 1000 - p.toInt
    omega
  · rw [if_neg c]
    have c2 := nlt c
    have e1 : (b - ct).toInt = b.toInt - ct.toInt := tsu (by omega) (by omega)
    have e2 := fd32 (a := b - ct) (b := 2) (by decide)
    have z : (2 : Int32).toInt = 2 := rfl
    rw [e1, z] at e2
    generalize S_J9_floorDiv_7cf53 (b - ct) 2 = x at e2 ⊢
    have e3 : (x + 1).toInt = x.toInt + 1 := ta (b := 1) (by show -2147483648 ≤ x.toInt + 1; omega) (by show x.toInt + 1 < 2147483648; omega)
    have m := min_t (x + 1) (1000 - p)
    generalize S_J9_min_7cf53 (x + 1) (1000 - p) = y at m ⊢
    rw [e3, e0] at m
    split at m <;> omega
theorem WT_pop {d e : Int} {ρ : Nat → Int32} (h : WT d e ρ) : WT d e (S_X0_pop ρ (ρ 14)) := by
  have b14 : 0 ≤ (ρ 14).toInt ∧ (ρ 14).toInt ≤ 3000 := h.1 14 (by decide)
  have b16 : -1000 ≤ (ρ 16).toInt ∧ (ρ 16).toInt ≤ 5000 := h.1 16 (by decide)
  have b18 : 0 ≤ (ρ 18).toInt ∧ (ρ 18).toInt ≤ 10000 := h.1 18 (by decide)
  have b20 : 0 ≤ (ρ 20).toInt ∧ (ρ 20).toInt ≤ 1000 := h.1 20 (by decide)
  obtain ⟨a1, a2, -⟩ := age_ix (a := ρ 18) ⟨b18.1, by omega⟩
  obtain ⟨m, hm⟩ : ∃ m, (if ρ 16 < ρ 14 then (0 : Int32) else S_J9_min_7cf53 (S_J9_floorDiv_7cf53 (ρ 16 - ρ 14) 2 + 1) (1000 - ρ 20)) = m := ⟨_, rfl⟩
  have mb := pops_bd b16 b14 b20
  rw [hm] at mb
  have pp := fun k => pop_pt (ρ := ρ) (ct := ρ 14) (m := m) a1 a2 hm k
  generalize ((ρ 18).toInt % 6).toNat = A at a2 pp
  have E : S_X0_pop ρ (ρ 14) = va_up (va_up ρ 20 (ρ 20 + m)) (26 + A) m := by
    funext k
    rw [pp k]
    rfl
  rw [E]
  clear E pp a1 hm
  have e20 : (ρ 20 + m).toInt = (ρ 20).toInt + m.toInt := ta (by omega) (by omega)
  have r26 : 0 ≤ (ρ 26).toInt := (h.1 26 (by decide)).1
  have r27 : 0 ≤ (ρ 27).toInt := (h.1 27 (by decide)).1
  have r28 : 0 ≤ (ρ 28).toInt := (h.1 28 (by decide)).1
  have r29 : 0 ≤ (ρ 29).toInt := (h.1 29 (by decide)).1
  have r30 : 0 ≤ (ρ 30).toInt := (h.1 30 (by decide)).1
  have r31 : 0 ≤ (ρ 31).toInt := (h.1 31 (by decide)).1
  have bd20 : BD (va_up ρ 20 (ρ 20 + m)) := BD_up h.1 (by rw [e20]; show 0 ≤ _; omega) (by rw [e20]; show _ ≤ 1000; omega)
  obtain ⟨q1, q2, q3, q4, q5, q6⟩ := h.2
  have m0 : 0 ≤ m.toInt := mb.1
  have m1 : m.toInt ≤ 1000 := by omega
  rcases (show A = 0 ∨ A = 1 ∨ A = 2 ∨ A = 3 ∨ A = 4 ∨ A = 5 by omega) with rfl | rfl | rfl | rfl | rfl | rfl
  · refine ⟨BD_up (k := 26) bd20 m0 m1, q1, q2, q3, ?_, q5, q6⟩
    show m.toInt + (ρ 27).toInt + (ρ 28).toInt + (ρ 29).toInt + (ρ 30).toInt + (ρ 31).toInt ≤ (ρ 20 + m).toInt
    omega
  · refine ⟨BD_up (k := 27) bd20 m0 m1, q1, q2, q3, ?_, q5, q6⟩
    show (ρ 26).toInt + m.toInt + (ρ 28).toInt + (ρ 29).toInt + (ρ 30).toInt + (ρ 31).toInt ≤ (ρ 20 + m).toInt
    omega
  · refine ⟨BD_up (k := 28) bd20 m0 m1, q1, q2, q3, ?_, q5, q6⟩
    show (ρ 26).toInt + (ρ 27).toInt + m.toInt + (ρ 29).toInt + (ρ 30).toInt + (ρ 31).toInt ≤ (ρ 20 + m).toInt
    omega
  · refine ⟨BD_up (k := 29) bd20 m0 m1, q1, q2, q3, ?_, q5, q6⟩
    show (ρ 26).toInt + (ρ 27).toInt + (ρ 28).toInt + m.toInt + (ρ 30).toInt + (ρ 31).toInt ≤ (ρ 20 + m).toInt
    omega
  · refine ⟨BD_up (k := 30) bd20 m0 m1, q1, q2, q3, ?_, q5, q6⟩
    show (ρ 26).toInt + (ρ 27).toInt + (ρ 28).toInt + (ρ 29).toInt + m.toInt + (ρ 31).toInt ≤ (ρ 20 + m).toInt
    omega
  · refine ⟨BD_up (k := 31) bd20 m0 m1, q1, q2, q3, ?_, q5, q6⟩
    show (ρ 26).toInt + (ρ 27).toInt + (ρ 28).toInt + (ρ 29).toInt + (ρ 30).toInt + m.toInt ≤ (ρ 20 + m).toInt
    omega
theorem pop_fr {ρ : Nat → Int32} {ct : Int32} {k : Nat} (h : k < 20) : S_X0_pop ρ ct k = ρ k := by
  unfold S_X0_pop
  (try dsimp only)
  rw [va_up_ne _ _ (by omega)]
  exact S_put_lo (by omega)
theorem WT_loss {e : Int} {ρ μ : Nat → Int32} (h : WT 1 e ρ) (hμ : VB 6 999 μ) : WT 0 e (va_up ρ 19 (ρ 19 + S_X6_valueBelow μ 6 (ρ 16))) := by
  have b := below_bd (by decide) (by decide) hμ (ρ 16)
  generalize S_X6_valueBelow μ 6 (ρ 16) = v at b ⊢
  have b18 : 0 ≤ (ρ 18).toInt ∧ (ρ 18).toInt ≤ 10000 := h.1 18 (by decide)
  have b19 : 0 ≤ (ρ 19).toInt ∧ (ρ 19).toInt ≤ 10000000 := h.1 19 (by decide)
  obtain ⟨q1, q2, q3, q4, q5, q6⟩ := h.2
  have e1 : (ρ 19 + v).toInt = (ρ 19).toInt + v.toInt := ta (by omega) (by omega)
  refine ⟨BD_up h.1 (by rw [e1]; show 0 ≤ _; omega) (by rw [e1]; show _ ≤ 10000000; omega), q1, ?_, q3, q4, q5, q6⟩
  show (ρ 19 + v).toInt ≤ 999 * ((ρ 18).toInt - 0)
  rw [e1]
  omega
theorem WT_detect {ρ : Nat → Int32} {th : Int32} (h : WT 0 1 ρ) (ha : 1 ≤ (ρ 18).toInt) : WT 0 0 (S_X0_lookForCrack ρ th) := by
  obtain ⟨q1, q2, q3, q4, q5, q6⟩ := h.2
  have b18 : 0 ≤ (ρ 18).toInt ∧ (ρ 18).toInt ≤ 10000 := h.1 18 (by decide)
  have same : WT 0 0 ρ := ⟨h.1, q1, q2, q3, q4, q5.imp id (fun z => ⟨z.1, by omega⟩), q6⟩
  unfold S_X0_lookForCrack
  (try dsimp only)
  generalize (if S_X0_window ρ < th then (0 : Int32) else 1) = w
  have n24 : ∀ z : ρ 23 = -100009, ρ 24 = -100009 := fun z => by
    rcases q6 with q | q
    · exact q
    · rw [z] at q
      exact absurd q.1 (by decide)
  by_cases c : ρ 23 = -100009
  · rw [if_pos c]
    by_cases f : w = 0
    · rw [if_pos f]; exact same
    · rw [if_neg f]
      refine ⟨BD_up h.1 (i32 _).1 (i32 _).2, q1, q2, q3, q4, Or.inr ⟨ha, ?_⟩, Or.inl (n24 c)⟩
      show (ρ 18).toInt ≤ (ρ 18).toInt - 0
      omega
  · rw [if_neg c]
    by_cases g : ρ 24 = -100009
    · rw [if_pos g]
      by_cases f : w = 0
      · rw [if_pos f]
        have q5' := q5.resolve_left c
        refine ⟨BD_up h.1 (i32 _).1 (i32 _).2, q1, q2, q3, q4, Or.inr ⟨q5'.1, ?_⟩, Or.inr ⟨q5'.1, ?_⟩⟩
        · show (ρ 23).toInt ≤ (ρ 18).toInt - 0
          omega
        · show (ρ 23).toInt < (ρ 18).toInt
          omega
      · rw [if_neg f]; exact same
    · rw [if_neg g]; exact same
theorem detect_fr {ρ : Nat → Int32} {th : Int32} {k : Nat} (h1 : k ≠ 23) (h2 : k ≠ 24) : S_X0_lookForCrack ρ th k = ρ k := by
  unfold S_X0_lookForCrack
  (try dsimp only)
  generalize (if S_X0_window ρ < th then (0 : Int32) else 1) = w
  repeat' split
  all_goals first | rfl | (rw [va_up_ne _ _ h1]) | (rw [va_up_ne _ _ h2])
