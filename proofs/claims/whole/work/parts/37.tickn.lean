theorem pm {x m M : Int} (h0 : 0 ≤ m) (h1 : m ≤ M) : (0 ≤ x → 0 ≤ x * m ∧ x * m ≤ x * M) ∧ (x ≤ 0 → x * M ≤ x * m ∧ x * m ≤ 0) := by
  refine ⟨fun h => ⟨Int.mul_nonneg h h0, Int.mul_le_mul_of_nonneg_left h1 h⟩, fun h => ?_⟩
  have a := Int.mul_le_mul_of_nonneg_left h1 (show 0 ≤ -x by omega)
  have b := Int.mul_nonneg (show 0 ≤ -x by omega) h0
  rw [Int.neg_mul, Int.neg_mul] at a
  rw [Int.neg_mul] at b
  omega
theorem drum1_t {d a p : Int32} (hd : -1000 ≤ d.toInt ∧ d.toInt ≤ 5000) (ha : 0 ≤ a.toInt ∧ a.toInt ≤ 400) (hp : 0 ≤ p.toInt ∧ p.toInt ≤ 100) : (d + S_X10_down (8 * p - S_X10_down (d - a) 5) 10).toInt = d.toInt + (8 * p.toInt - (d.toInt - a.toInt) / 5) / 10 := by
  have e1 : (d - a).toInt = d.toInt - a.toInt := tsu (by omega) (by omega)
  have e2 := dn32 (a := d - a) (b := 5) (by decide)
  have z5 : (5 : Int32).toInt = 5 := rfl
  rw [e1, z5] at e2
  have e3 : (8 * p).toInt = 8 * p.toInt := tml (a := 8) (by show -2147483648 ≤ 8 * p.toInt; omega) (by show 8 * p.toInt < 2147483648; omega)
  generalize S_X10_down (d - a) 5 = x at e2 ⊢
  have e4 : (8 * p - x).toInt = 8 * p.toInt - (d.toInt - a.toInt) / 5 := by
    rw [tsu (by rw [e3, e2]; omega) (by rw [e3, e2]; omega), e3, e2]
  have e5 := dn32 (a := 8 * p - x) (b := 10) (by decide)
  have z10 : (10 : Int32).toInt = 10 := rfl
  rw [e4, z10] at e5
  generalize S_X10_down (8 * p - x) 10 = y at e5 ⊢
  rw [ta (by rw [e5]; omega) (by rw [e5]; omega), e5]
theorem down_ml {x m K : Int32} {M D : Int} (hx : -10000 ≤ x.toInt ∧ x.toInt ≤ 10000) (hm : 0 ≤ m.toInt ∧ m.toInt ≤ M) (hM : M ≤ 1000) (hK : 0 < K.toInt) (eK : K.toInt = D) : (S_X10_down (x * m) K).toInt = x.toInt * m.toInt / D := by
  have q := pm (x := x.toInt) hm.1 (Int.le_trans hm.2 hM)
  have b : -10000000 ≤ x.toInt * m.toInt ∧ x.toInt * m.toInt ≤ 10000000 := by
    rcases Int.le_total 0 x.toInt with h | h
    · have := q.1 h
      omega
    · have := q.2 h
      omega
  rw [dn32 hK, tml (by omega) (by omega), eK]
theorem drum_bd {d d1 b a p m y : Int} (hd : -1000 ≤ d ∧ d ≤ 5000) (hb : -1000 ≤ b ∧ b ≤ 5000) (ha : 0 ≤ a ∧ a ≤ 400) (hp : 0 ≤ p ∧ p ≤ 100) (h1 : d1 = d + (8 * p - (d - a) / 5) / 10) (hm : 0 ≤ m ∧ m ≤ 1000) (hy : y = (d - b) * m / 20000) : (-1000 ≤ d1 ∧ d1 ≤ 5000) ∧ -1000 ≤ d1 - y ∧ d1 - y ≤ 5000 := by
  have q := pm (x := d - b) hm.1 hm.2
  refine ⟨by omega, ?_⟩
  generalize (d - b) * m = z at q hy
  rcases Int.le_total 0 (d - b) with h | h
  · have := q.1 h
    clear q
    omega
  · have := q.2 h
    clear q
    omega
theorem bean_t {b D : Int32} (hb : -1000 ≤ b.toInt ∧ b.toInt ≤ 5000) (hD : -1000 ≤ D.toInt ∧ D.toInt ≤ 5000) : -1000 ≤ (b + S_X10_down (D - b) 20).toInt ∧ (b + S_X10_down (D - b) 20).toInt ≤ 5000 := by
  have e1 : (D - b).toInt = D.toInt - b.toInt := tsu (by omega) (by omega)
  have e2 := dn32 (a := D - b) (b := 20) (by decide)
  have z : (20 : Int32).toInt = 20 := rfl
  rw [e1, z] at e2
  generalize S_X10_down (D - b) 20 = x at e2 ⊢
  rw [ta (by rw [e2]; omega) (by rw [e2]; omega), e2]
  omega
theorem cool_t {b a f : Int32} (hb : -1000 ≤ b.toInt ∧ b.toInt ≤ 5000) (ha : 0 ≤ a.toInt ∧ a.toInt ≤ 400) (hf : 1 ≤ f.toInt ∧ f.toInt ≤ 50) : -1000 ≤ (b - S_X10_down ((b - a) * f) 100).toInt ∧ (b - S_X10_down ((b - a) * f) 100).toInt ≤ 5000 := by
  have e1 : (b - a).toInt = b.toInt - a.toInt := tsu (by omega) (by omega)
  have e2 := down_ml (x := b - a) (m := f) (K := 100) (M := 50) (D := 100) (by rw [e1]; omega) ⟨by omega, hf.2⟩ (by decide) (by decide) rfl
  rw [e1] at e2
  have q := pm (x := b.toInt - a.toInt) (m := f.toInt) (M := 50) (by omega) hf.2
  generalize S_X10_down ((b - a) * f) 100 = x at e2 ⊢
  generalize (b.toInt - a.toInt) * f.toInt = z at e2 q
  have bd : -1000 ≤ b.toInt - z / 100 ∧ b.toInt - z / 100 ≤ 5000 := by
    rcases Int.le_total 0 (b.toInt - a.toInt) with h | h
    · have := q.1 h
      clear q
      omega
    · have := q.2 h
      clear q
      omega
  rw [tsu (by rw [e2]; omega) (by rw [e2]; omega), e2]
  exact bd
def TK (σ : Nat → Int32) : Prop := (σ 9 = 0 ∨ σ 9 = 1) ∧ (0 ≤ (σ 7).toInt ∧ (σ 7).toInt ≤ 100) ∧ (0 ≤ (σ 3).toInt ∧ (σ 3).toInt ≤ 400) ∧ (0 ≤ (σ 17).toInt ∧ (σ 17).toInt ≤ 1000) ∧ (1 ≤ (σ 8).toInt ∧ (σ 8).toInt ≤ 50) ∧ (1 ≤ (σ 5).toInt ∧ (σ 5).toInt ≤ 60) ∧ (-1000 ≤ (σ 2).toInt ∧ (σ 2).toInt ≤ 5000) ∧ (-1000 ≤ (σ 16).toInt ∧ (σ 16).toInt ≤ 5000) ∧ (0 ≤ (σ 20).toInt ∧ (σ 20).toInt ≤ 1000) ∧ (0 ≤ (σ 14).toInt ∧ (σ 14).toInt ≤ 3000)
theorem TK_congr {σ σ' : Nat → Int32} (h : ∀ k, k = 2 ∨ k = 3 ∨ k = 5 ∨ k = 7 ∨ k = 8 ∨ k = 9 ∨ k = 14 ∨ k = 16 ∨ k = 17 ∨ k = 20 → σ' k = σ k) (hK : TK σ) : TK σ' := by
  unfold TK at *
  rw [h 2 (by decide), h 3 (by decide), h 5 (by decide), h 7 (by decide), h 8 (by decide), h 9 (by decide), h 14 (by decide), h 16 (by decide), h 17 (by decide), h 20 (by decide)]
  exact hK
theorem roasting_iff (σ : Nat → Int32) : S_X10_isRoasting σ = 0 ↔ ¬ σ 1 = 1 := by
  unfold S_X10_isRoasting
  by_cases c : σ 1 = 1
  · rw [if_pos c]
    exact ⟨fun h => absurd h (by decide), fun h => absurd c h⟩
  · rw [if_neg c]
    exact ⟨fun _ => c, fun _ => rfl⟩
