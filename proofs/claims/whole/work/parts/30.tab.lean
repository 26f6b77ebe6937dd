/-- a place among ascending keys -/
def IP (kf : Nat → Int) (m : Nat) (key : Int) (p : Nat) : Prop := p ≤ m ∧ (∀ j, j < p → kf j < key) ∧ (p < m → key ≤ kf p)
theorem IP_uniq {kf : Nat → Int} {m p q : Nat} {key : Int} (h1 : IP kf m key p) (h2 : IP kf m key q) : p = q := by
  obtain ⟨a1, a2, a3⟩ := h1
  obtain ⟨b1, b2, b3⟩ := h2
  rcases Nat.lt_trichotomy p q with h | h | h
  · have c1 := b2 p h
    have c2 := a3 (by omega)
    omega
  · exact h
  · have c1 := a2 q h
    have c2 := b3 (by omega)
    omega
theorem IP_congr {kf kf' : Nat → Int} {m p : Nat} {key : Int} (h : ∀ j, j < m → kf j = kf' j) (h1 : IP kf m key p) : IP kf' m key p := by
  obtain ⟨a1, a2, a3⟩ := h1
  refine ⟨a1, fun j hj => ?_, fun hp => ?_⟩
  · rw [← h j (by omega)]; exact a2 j hj
  · rw [← h p hp]; exact a3 hp
def ASC (kf : Nat → Int) (m : Nat) : Prop := ∀ j, j + 1 < m → kf j < kf (j + 1)
theorem ASC_lt {kf : Nat → Int} {m : Nat} (h : ASC kf m) (i : Nat) : ∀ d, i + d + 1 < m → kf i < kf (i + d + 1) := by
  intro d
  induction d with
  | zero => intro hd; exact h i hd
  | succ d ih =>
    intro hd
    have a := ih (by omega)
    have b := h (i + d + 1) (by omega)
    have e : i + (d + 1) + 1 = i + d + 1 + 1 := by omega
    rw [e]
    omega
theorem ASC_lt' {kf : Nat → Int} {m : Nat} (h : ASC kf m) {i j : Nat} (hij : i < j) (hj : j < m) : kf i < kf j := by
  have a := ASC_lt h i (j - i - 1) (by omega)
  have e : i + (j - i - 1) + 1 = j := by omega
  rwa [e] at a
theorem IP_next {kf : Nat → Int} {m p : Nat} {key : Int} (hA : ASC kf m) (h : IP kf m key p) : IP kf m (key + 1) (if p < m ∧ kf p = key then p + 1 else p) := by
  obtain ⟨a1, a2, a3⟩ := h
  by_cases c : p < m ∧ kf p = key
  · rw [if_pos c]
    refine ⟨by omega, fun j hj => ?_, fun hp => ?_⟩
    · by_cases e : j = p
      · rw [e]; omega
      · have := a2 j (by omega); omega
    · have := hA p hp; omega
  · rw [if_neg c]
    refine ⟨a1, fun j hj => ?_, fun hp => ?_⟩
    · have := a2 j hj; omega
    · have b := a3 hp
      by_cases e : kf p = key
      · exact absurd ⟨hp, e⟩ c
      · omega
theorem k_up {k : Int32} {K : Nat} (h : k.toInt = K) (hK : K ≤ 1000) : (k + 1).toInt = ((K + 1 : Nat) : Int) := by
  rw [ta (b := 1) (by rw [h]; show -2147483648 ≤ (K : Int) + 1; omega) (by rw [h]; show (K : Int) + 1 < 2147483648; omega), h]
  rfl
theorem k_dn {k : Int32} {K : Nat} (h : k.toInt = ((K + 1 : Nat) : Int)) (hK : K ≤ 1000) : (k - 1).toInt = (K : Int) ∧ (k + (-1)).toInt = (K : Int) := by
  refine ⟨?_, ?_⟩
  · rw [tsu (b := 1) (by rw [h]; show -2147483648 ≤ ((K + 1 : Nat) : Int) - 1; omega) (by rw [h]; show ((K + 1 : Nat) : Int) - 1 < 2147483648; omega), h]
    show ((K + 1 : Nat) : Int) - 1 = K
    omega
  · rw [am1 (by rw [h]; omega), h]
    omega
theorem i_eq {k : Int32} {K : Nat} (h : k.toInt = K) : Int32.toNatClampNeg k = K := by
  have := clN (x := k) (by rw [h]; exact Int.natCast_nonneg K)
  rw [h] at this
  exact Int.ofNat_inj.mp this
theorem n_of {n : Nat} (hn : n ≤ 1000) : (Int32.ofNat n).toInt = n := by
  rw [Int32.toInt_ofNat_of_lt (by omega)]
theorem S_at_in {row : Nat → Int32} {o t n K : Nat} {k : Int32} (h : k.toInt = K) (hK : K < n) (hn : n ≤ 1000) : S_at row o t n k = row (o + t * K) := by
  unfold S_at
  rw [if_neg, if_neg, i_eq h]
  · intro c
    have := Int32.le_iff_toInt_le.mp c
    rw [n_of hn, h] at this
    omega
  · intro c
    have := Int32.lt_iff_toInt_lt.mp c
    rw [h] at this
    have e : (0 : Int32).toInt = 0 := rfl
    omega
theorem S_put_in {row : Nat → Int32} {o t n K : Nat} {k v : Int32} (h : k.toInt = K) (hK : K < n) (hn : n ≤ 1000) : S_put row o t n k v = va_up row (o + t * K) v := by
  unfold S_put
  rw [if_neg, if_neg, i_eq h]
  · intro c
    have := Int32.le_iff_toInt_le.mp c
    rw [n_of hn, h] at this
    omega
  · intro c
    have := Int32.lt_iff_toInt_lt.mp c
    rw [h] at this
    have e : (0 : Int32).toInt = 0 := rfl
    omega
/-- where place stops -/
theorem L_place_ip {σ : Nat → Int32} {li ma ke : Int32} {L m : Nat} (eL : li.toInt = L) (hl : L ≤ 50) (em : ma.toInt = m) (hm : m ≤ 8) : ∀ (fu : Nat) (k : Int32) (K : Nat), k.toInt = K → K ≤ m → m - K < fu → (∀ j, j < K → (σ (L + 2 * j)).toInt < ke.toInt) → ∃ P : Nat, (L_X10_place_3 fu σ li ma ke k).toInt = P ∧ IP (fun j => (σ (L + 2 * j)).toInt) m ke.toInt P := by
  intro fu
  induction fu with
  | zero => intro _ _ _ _ h; exact absurd h (Nat.not_lt_zero _)
  | succ fu ih =>
    intro k K hk hK hf hb
    unfold L_X10_place_3
    by_cases c : ma ≤ k
    · rw [if_pos c]
      have c2 := Int32.le_iff_toInt_le.mp c
      rw [em, hk] at c2
      refine ⟨K, hk, by omega, hb, fun h => ?_⟩
      exact absurd h (by omega)
    · rw [if_neg c]
      have c2 := nle c
      rw [em, hk] at c2
      have n1 := (ins_ix (li := li) (L := L) (by rw [eL]; exact ⟨Int.natCast_nonneg L, by omega⟩) eL hk (by omega)).2.1
      rw [n1]
      by_cases d : ke ≤ σ (L + 2 * K)
      · rw [if_pos d]
        exact ⟨K, hk, hK, hb, fun _ => Int32.le_iff_toInt_le.mp d⟩
      · rw [if_neg d]
        refine ih (k + 1) (K + 1) (k_up hk (by omega)) (by omega) (by omega) (fun j hj => ?_)
        by_cases e : j = K
        · rw [e]; exact nle d
        · exact hb j (by omega)
theorem place_ip {σ : Nat → Int32} {li ma ke : Int32} {L m : Nat} (eL : li.toInt = L) (hl : L ≤ 50) (em : ma.toInt = m) (hm : m ≤ 8) : ∃ P : Nat, (S_X10_place σ li ma ke).toInt = P ∧ IP (fun j => (σ (L + 2 * j)).toInt) m ke.toInt P :=
  L_place_ip eL hl em hm _ 0 0 rfl (Nat.zero_le _) (by rw [em]; show m - 0 < ((m : Int) - 0).toNat + 1; omega) (fun j hj => absurd hj (Nat.not_lt_zero _))
theorem L_below_ip {ρ : Nat → Int32} {n m : Nat} {key : Int32} (em : (ρ 0).toInt = m) (hm : m ≤ n) (hn : n ≤ 1000) : ∀ (fu : Nat) (ix k : Int32) (K : Nat), k.toInt = K → ix.toInt = (K : Int) - 1 → K ≤ m → m - K < fu → (∀ j, j < K → (ρ (1 + 2 * j)).toInt < key.toInt + 1) → ∃ P : Nat, (L_X6_indexBelow_4 fu ρ n key ix k).toInt = (P : Int) - 1 ∧ IP (fun j => (ρ (1 + 2 * j)).toInt) m (key.toInt + 1) P := by
  intro fu
  induction fu with
  | zero => intro _ _ _ _ _ _ h; exact absurd h (Nat.not_lt_zero _)
  | succ fu ih =>
    intro ix k K hk hi hK hf hb
    unfold L_X6_indexBelow_4
    by_cases c : ρ 0 ≤ k
    · rw [if_pos c]
      have c2 := Int32.le_iff_toInt_le.mp c
      rw [em, hk] at c2
      exact ⟨K, hi, hK, hb, fun h => absurd h (by omega)⟩
    · rw [if_neg c]
      have c2 := nle c
      rw [em, hk] at c2
      rw [S_at_in hk (by omega) hn]
      by_cases d : key < ρ (1 + 2 * K)
      · rw [if_pos d]
        have d2 := Int32.lt_iff_toInt_lt.mp d
        exact ⟨K, hi, hK, hb, fun _ => by show _ ≤ (ρ (1 + 2 * K)).toInt; omega⟩
      · rw [if_neg d]
        have d2 := nlt d
        refine ih k (k + 1) (K + 1) (k_up hk (by omega)) (by rw [hk]; omega) (by omega) (by omega) (fun j hj => ?_)
        by_cases e : j = K
        · rw [e]; omega
        · exact hb j (by omega)
theorem below_ip {ρ : Nat → Int32} {n m : Nat} {key : Int32} (em : (ρ 0).toInt = m) (hm : m ≤ n) (hn : n ≤ 1000) : ∃ P : Nat, (S_X6_indexBelow ρ n key).toInt = (P : Int) - 1 ∧ IP (fun j => (ρ (1 + 2 * j)).toInt) m (key.toInt + 1) P :=
  L_below_ip em hm hn _ (-1) 0 0 rfl rfl (Nat.zero_le _) (by rw [em]; show m - 0 < ((m : Int) - 0).toNat + 1; omega) (fun j hj => absurd hj (Nat.not_lt_zero _))
