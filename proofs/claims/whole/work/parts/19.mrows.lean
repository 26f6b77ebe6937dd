/-- what the reference's row holds at all times, as far as its own steps need it -/
def PI (σ : Nat → Int32) : Prop := (0 ≤ (σ 32).toInt ∧ (σ 32).toInt ≤ 8) ∧ (∀ j : Nat, (j : Int) + 1 < (σ 32).toInt → (σ (33 + 2 * j)).toInt < (σ (33 + 2 * (j + 1))).toInt) ∧ ∀ j : Nat, (j : Int) < (σ 32).toInt → 0 ≤ (σ (33 + 2 * j)).toInt ∧ (σ (33 + 2 * j)).toInt ≤ 400
def MI (σ : Nat → Int32) : Prop := PI σ ∧ (0 ≤ (σ 49).toInt ∧ (σ 49).toInt ≤ 6) ∧ 1 ≤ (σ 5).toInt ∧ (σ 5).toInt ≤ 60
theorem MI_congr {σ σ' : Nat → Int32} (h : ∀ k, k = 5 ∨ 32 ≤ k → σ' k = σ k) (hI : MI σ) : MI σ' := by
  obtain ⟨⟨h1, h2, h3⟩, h4, h5⟩ := hI
  unfold MI PI
  rw [h 32 (by omega), h 49 (by omega), h 5 (by omega)]
  refine ⟨⟨h1, fun j hj => ?_, fun j hj => ?_⟩, h4, h5⟩
  · rw [h _ (by omega), h _ (by omega)]
    exact h2 j hj
  · rw [h _ (by omega)]
    exact h3 j hj
theorem MI_up {σ : Nat → Int32} {j : Nat} {v : Int32} (h1 : j < 32) (h2 : j ≠ 5) (h : MI σ) : MI (va_up σ j v) := MI_congr (fun k hk => va_up_ne _ _ (by omega)) h
theorem MI.lag {σ : Nat → Int32} (h : MI σ) : ¬ σ 5 = 0 := fun e => by
  have := h.2.2.1
  rw [e] at this
  exact absurd this (by decide)
def L_X10_place_3 (fu : Nat) (σ : Nat → Int32) (li : Int32) (ma : Int32) (ke : Int32) (k : Int32) : Int32 := match fu with
  | 0 => 0
  | fu + 1 => if ma ≤ k then (k) else (if ke ≤ (σ (Int32.toNatClampNeg (li + (2 * k)))) then (k) else (L_X10_place_3 fu σ li ma ke (k + 1)))
def S_X10_place (σ : Nat → Int32) (li : Int32) (ma : Int32) (ke : Int32) : Int32 := L_X10_place_3 ((ma.toInt - (0 : Int32).toInt).toNat + 1) σ li ma ke 0
set_option maxRecDepth 100000 in
set_option maxHeartbeats 4000000 in
theorem w_X10_place_3 {G : Geo} {p : Program} {l : Launch} {e : Env} {s : State} {m : MethodId} {args : Array Value} {below : List Frame} {meth : Method} {c : Code} {h : Hp} {σ : Nat → Int32} {li : Int32} {ma : Int32} {ke : Int32} (X : CX G (AA G) p s m meth c RX10 cX10_place 5) (hret : meth.sig.returnType = (some .int)) (hM : MT G) (hr_37 : h 37 = σ) (hli : 0 ≤ li.toInt ∧ li.toInt ≤ 50) (hma : ma.toInt ≤ 8) (Z : Int32) : ∀ (fu : Nat) (k : Int32), (0 ≤ k.toInt) → ((ma : Int32).toInt - k.toInt).toNat < fu → L_X10_place_3 fu σ li ma ke k = Z → VV G (AA G) p l e { frames := 0, cells := 0, slots := 0, locals := 0 } s m args below meth c 0 0 (MQ below (QC G h (some (.int Z))) args s 0 0 (AA G)) 5 h 3 [(0, .ref (gA G 36 0)), (1, .int li), (2, .int ma), (3, .int ke), (4, .int k)] [] := by
  intro fu
  induction fu with
  | zero =>
    intro k hk hm
    exact absurd hm (Nat.not_lt_zero _)
  | succ fu ih =>
    intro k hk hm hZ
    have hG := X.2.2.2.2.2.1
    have hT_36 : gT G 36 = 9 := hM 36 (by decide) (by decide)
    have hT_37 : gT G 37 = 10 := hM 37 (by decide) (by decide)
    refine q_iload X 4 dX10_place_3 rfl ?_
    refine q_iload_n X 2 dX10_place_5 rfl ?_
    refine q_icmp_ge (tgt := 30) X dX10_place_6 (by decide) (fun c1 => ?_) (fun c1 => ?_)
    · skip
      refine q_iload X 4 dX10_place_30 rfl ?_
      have E : Z = k := by exact hZ.symm.trans ((if_pos c1).trans rfl)
      exact q_iret X hret dX10_place_32 (by rw [E]) rfl
    · skip
      refine q_aload_n X 0 dX10_place_9 rfl ?_
      refine q_get (fk := 1) (v := .ref (gA G 37 0)) X cf_X10 (ac_9_0 hT_36) (by decide) fl_X10_7 rfl rfl dX10_place_10 rfl ?_
      refine q_iload_n X 1 dX10_place_13 rfl ?_
      refine q_iconst (v := 2) X dX10_place_14 (by decide) ?_
      refine q_iload X 4 dX10_place_15 rfl ?_
      refine q_imul X dX10_place_17 ?_
      refine q_iadd X dX10_place_18 ?_
      refine q_iald (x := σ (Int32.toNatClampNeg (li + (2 * k)))) X (ac_10_0 hT_37) (by rw [hT_37]; exact ix_p hli hma hk c1) dX10_place_19 (hr_37) (by rw [Nat.zero_add, Nat.one_mul]) ?_
      refine q_iload_n X 3 dX10_place_20 rfl ?_
      refine q_icmp_ge (tgt := 30) X dX10_place_21 (by decide) (fun c2 => ?_) (fun c2 => ?_)
      · skip
        refine q_iload X 4 dX10_place_30 rfl ?_
        have E : Z = k := by exact hZ.symm.trans ((if_neg c1).trans ((if_pos c2).trans rfl))
        exact q_iret X hret dX10_place_32 (by rw [E]) rfl
      · skip
        refine q_iinc (v := k + 1) (lv' := [(4, .int (k + 1)), (0, .ref (gA G 36 0)), (1, .int li), (2, .int ma), (3, .int ke)]) X 4 dX10_place_24 rfl rfl (by decide) rfl ?_
        refine q_goto (tgt := 3) X dX10_place_27 (by decide) ?_
        refine q_sub (lv2 := [(0, .ref (gA G 36 0)), (1, .int li), (2, .int ma), (3, .int ke), (4, .int (k + 1))]) [1, 2, 3, 4, 0] rfl ?_
        have E : L_X10_place_3 fu σ li ma ke (k + 1) = Z := Eq.trans (Eq.symm (by exact (if_neg c1).trans ((if_neg c2).trans rfl))) hZ
        exact ih (k + 1) (by exact stp c1 hk) (by exact ms_up c1 hm) E
set_option maxRecDepth 100000 in
set_option maxHeartbeats 4000000 in
theorem c_X10_place {G : Geo} {l : Launch} (hG : GOK G) {h : Hp} {σ : Nat → Int32} (li : Int32) (ma : Int32) (ke : Int32) (hM : MT G) (hr_37 : h 37 = σ) (hli : 0 ≤ li.toInt ∧ li.toInt ≤ 50) (hma : ma.toInt ≤ 8) : CM G l yX10_place cX10_place 5 (some .int) 0 0 [.ref (gA G 36 0), .int li, .int ma, .int ke] h h (some (.int (S_X10_place σ li ma ke))) := by
  obtain ⟨Z, hZ⟩ : ∃ Z, S_X10_place σ li ma ke = Z := ⟨_, rfl⟩
  rw [hZ]
  refine q_enter hG mf_X10_place (Nat.le_of_ble_eq_true rfl) ?_
  intro p e s m below meth c X hret
  have hT_36 : gT G 36 = 9 := hM 36 (by decide) (by decide)
  have hT_37 : gT G 37 = 10 := hM 37 (by decide) (by decide)
  refine q_lv (lv2 := [(0, .ref (gA G 36 0)), (1, .int li), (2, .int ma), (3, .int ke)]) rfl ?_
  refine q_iconst (v := 0) X dX10_place_0 (by decide) ?_
  refine q_istore (lv' := [(4, .int 0), (0, .ref (gA G 36 0)), (1, .int li), (2, .int ma), (3, .int ke)]) X dX10_place_1 (by decide) rfl ?_
  refine q_sub (lv2 := [(0, .ref (gA G 36 0)), (1, .int li), (2, .int ma), (3, .int ke), (4, .int 0)]) [1, 2, 3, 4, 0] rfl ?_
  have E : L_X10_place_3 ((ma.toInt - (0 : Int32).toInt).toNat + 1) σ li ma ke 0 = Z := Eq.trans (Eq.symm (by exact rfl)) hZ
  exact w_X10_place_3 X hret hM hr_37 hli hma Z ((ma.toInt - (0 : Int32).toInt).toNat + 1) 0 (by decide) (by exact Nat.lt_succ_self _) E
def S_X10_isAt (σ : Nat → Int32) (li : Int32) (ma : Int32) (kk : Int32) (ke : Int32) : Int32 := if ma ≤ kk then (0) else (if (σ (Int32.toNatClampNeg (li + (2 * kk)))) = ke then (1) else (0))
set_option maxRecDepth 100000 in
set_option maxHeartbeats 4000000 in
theorem c_X10_isAt {G : Geo} {l : Launch} (hG : GOK G) {h : Hp} {σ : Nat → Int32} (li : Int32) (ma : Int32) (kk : Int32) (ke : Int32) (hM : MT G) (hr_37 : h 37 = σ) (hli : 0 ≤ li.toInt ∧ li.toInt ≤ 50) (hma : ma.toInt ≤ 8) (hk0 : 0 ≤ kk.toInt) : CM G l yX10_isAt cX10_isAt 5 (some .boolean) 0 0 [.ref (gA G 36 0), .int li, .int ma, .int kk, .int ke] h h (some (.int (S_X10_isAt σ li ma kk ke))) := by
  obtain ⟨Z, hZ⟩ : ∃ Z, S_X10_isAt σ li ma kk ke = Z := ⟨_, rfl⟩
  rw [hZ]
  refine q_enter hG mf_X10_isAt (Nat.le_of_ble_eq_true rfl) ?_
  intro p e s m below meth c X hret
  have hT_36 : gT G 36 = 9 := hM 36 (by decide) (by decide)
  have hT_37 : gT G 37 = 10 := hM 37 (by decide) (by decide)
  refine q_lv (lv2 := [(0, .ref (gA G 36 0)), (1, .int li), (2, .int ma), (3, .int kk), (4, .int ke)]) rfl ?_
  refine q_iload_n X 3 dX10_isAt_0 rfl ?_
  refine q_iload_n X 2 dX10_isAt_1 rfl ?_
  refine q_icmp_ge (tgt := 24) X dX10_isAt_2 (by decide) (fun c1 => ?_) (fun c1 => ?_)
  · skip
    refine q_iconst (v := 0) X dX10_isAt_24 (by decide) ?_
    have E : Z = 0 := by exact hZ.symm.trans ((if_pos c1).trans rfl)
    exact q_zret X hret rfl dX10_isAt_25 (by rw [E]) rfl
  · skip
    refine q_aload_n X 0 dX10_isAt_5 rfl ?_
    refine q_get (fk := 1) (v := .ref (gA G 37 0)) X cf_X10 (ac_9_0 hT_36) (by decide) fl_X10_7 rfl rfl dX10_isAt_6 rfl ?_
    refine q_iload_n X 1 dX10_isAt_9 rfl ?_
    refine q_iconst (v := 2) X dX10_isAt_10 (by decide) ?_
    refine q_iload_n X 3 dX10_isAt_11 rfl ?_
    refine q_imul X dX10_isAt_12 ?_
    refine q_iadd X dX10_isAt_13 ?_
    refine q_iald (x := σ (Int32.toNatClampNeg (li + (2 * kk)))) X (ac_10_0 hT_37) (by rw [hT_37]; exact ix_p hli hma hk0 c1) dX10_isAt_14 (hr_37) (by rw [Nat.zero_add, Nat.one_mul]) ?_
    refine q_iload X 4 dX10_isAt_15 rfl ?_
    refine q_icmp_ne (tgt := 24) X dX10_isAt_17 (by decide) (fun c2 => ?_) (fun c2 => ?_)
    · skip
      refine q_iconst (v := 0) X dX10_isAt_24 (by decide) ?_
      have E : Z = 0 := by exact hZ.symm.trans ((if_neg c1).trans ((if_neg c2).trans rfl))
      exact q_zret X hret rfl dX10_isAt_25 (by rw [E]) rfl
    · skip
      refine q_iconst (v := 1) X dX10_isAt_20 (by decide) ?_
      refine q_goto (tgt := 25) X dX10_isAt_21 (by decide) ?_
      have E : Z = 1 := by exact hZ.symm.trans ((if_neg c1).trans ((if_pos c2).trans rfl))
      exact q_zret X hret rfl dX10_isAt_25 (by rw [E]) rfl
theorem Z_X10_isAt (σ : Nat → Int32) (li : Int32) (ma : Int32) (kk : Int32) (ke : Int32) : (S_X10_isAt σ li ma kk ke) = 0 ∨ (S_X10_isAt σ li ma kk ke) = 1 := by
  unfold S_X10_isAt
  (repeat' split) <;> first | exact Or.inl rfl | exact Or.inr rfl
theorem L_place_bd {σ : Nat → Int32} {li ma ke : Int32} (hm : 0 ≤ ma.toInt) : ∀ (fu : Nat) (k : Int32), 0 ≤ k.toInt → k.toInt ≤ ma.toInt → 0 ≤ (L_X10_place_3 fu σ li ma ke k).toInt ∧ (L_X10_place_3 fu σ li ma ke k).toInt ≤ ma.toInt := by
  intro fu
  induction fu with
  | zero => intro k h0 h1; exact ⟨Int.le_refl 0, hm⟩
  | succ fu ih =>
    intro k h0 h1
    unfold L_X10_place_3
    by_cases c1 : ma ≤ k
    · rw [if_pos c1]; exact ⟨h0, h1⟩
    · rw [if_neg c1]
      split
      · exact ⟨h0, h1⟩
      · have h3 := nle c1
        have h4 := Int32.toInt_lt ma
        have e : (k + 1).toInt = k.toInt + 1 := ta (b := 1) (by show -2147483648 ≤ k.toInt + 1; omega) (by show k.toInt + 1 < 2147483648; omega)
        exact ih _ (by omega) (by omega)
theorem place_bd {σ : Nat → Int32} {li ma ke : Int32} (hm : 0 ≤ ma.toInt) : 0 ≤ (S_X10_place σ li ma ke).toInt ∧ (S_X10_place σ li ma ke).toInt ≤ ma.toInt := L_place_bd hm _ _ (Int.le_refl 0) hm
theorem e33 {li p : Int32} (hl : 0 ≤ li.toInt ∧ li.toInt ≤ 50) (hp : 0 ≤ p.toInt ∧ p.toInt ≤ 8) : (li + 2 * p).toInt = li.toInt + 2 * p.toInt ∧ (li + 2 * p + 1).toInt = li.toInt + 2 * p.toInt + 1 := by
  have e := tl2 (li := li) ⟨hl.1, by omega⟩ hp.1 (by omega)
  refine ⟨e, ?_⟩
  rw [ta (b := 1) (by rw [e]; show -2147483648 ≤ li.toInt + 2 * p.toInt + 1; omega) (by rw [e]; show li.toInt + 2 * p.toInt + 1 < 2147483648; omega), e]
  rfl
theorem ix_33 {li p : Int32} (hl : 0 ≤ li.toInt ∧ li.toInt ≤ 50) (hp : 0 ≤ p.toInt ∧ p.toInt ≤ 8) : vp_in (li + 2 * p) 112 ∧ vp_in (li + 2 * p + 1) 112 := by
  obtain ⟨e1, e2⟩ := e33 hl hp
  exact ⟨vin_i (by omega) (by omega), vin_i (by omega) (by omega)⟩
theorem ix_at {li p a : Int32} (hl : 0 ≤ li.toInt ∧ li.toInt ≤ 50) (hp : 0 ≤ p.toInt ∧ p.toInt ≤ 8) (h1 : a.toInt ≤ 111) (c : ¬ a ≤ li + 2 * p + 1) : vp_in a 112 ∧ vp_in (a - 2) 112 := by
  obtain ⟨e1, e2⟩ := e33 hl hp
  have h2 := nle c
  have e : (a - 2).toInt = a.toInt - 2 := tsu (b := 2) (by show -2147483648 ≤ a.toInt - 2; omega) (by show a.toInt - 2 < 2147483648; omega)
  exact ⟨vin_i (by omega) (by omega), vin_i (by omega) (by omega)⟩
theorem at_dn {a b : Int32} (h : a.toInt ≤ 111) (c : ¬ a ≤ b) : (a + (-1)).toInt ≤ 111 := by
  have := nle c
  have := Int32.le_toInt b
  have e : (a + (-1)).toInt = a.toInt + (-1) := ta (b := -1) (by show -2147483648 ≤ a.toInt + (-1); omega) (by show a.toInt + (-1) < 2147483648; omega)
  omega
theorem pbd {σ : Nat → Int32} {li ma ke : Int32} (h : 0 ≤ ma.toInt ∧ ma.toInt ≤ 7) : 0 ≤ (S_X10_place σ li ma ke).toInt ∧ (S_X10_place σ li ma ke).toInt ≤ 8 := ⟨(place_bd h.1).1, Int.le_trans (place_bd h.1).2 (by omega)⟩
theorem pbd8 {σ : Nat → Int32} {li ma ke : Int32} (h : 0 ≤ ma.toInt ∧ ma.toInt ≤ 8) : 0 ≤ (S_X10_place σ li ma ke).toInt ∧ (S_X10_place σ li ma ke).toInt ≤ 8 := ⟨(place_bd h.1).1, Int.le_trans (place_bd h.1).2 h.2⟩
theorem out_b {li x y aa : Int32} {L : Int} (hl : 0 ≤ li.toInt ∧ li.toInt ≤ 50) (hs : 1 ≤ x.toInt ∧ x.toInt ≤ 8) (h32 : y = x - 1) (c : ¬ li + 2 * y ≤ aa) (ha : L ≤ aa.toInt) (hL : li.toInt = L) : L ≤ aa.toInt ∧ aa.toInt < L + 14 := by
  have e : (x - 1).toInt = x.toInt - 1 := tsu (b := 1) (by show -2147483648 ≤ x.toInt - 1; omega) (by show x.toInt - 1 < 2147483648; omega)
  have h2 := nle c
  rw [h32, tl2 ⟨hl.1, by omega⟩ (by omega) (by omega), e] at h2
  omega
theorem out_ix {li x y aa : Int32} {L : Int} (hl : 0 ≤ li.toInt ∧ li.toInt ≤ 50) (hs : 1 ≤ x.toInt ∧ x.toInt ≤ 8) (h32 : y = x - 1) (c : ¬ li + 2 * y ≤ aa) (ha : L ≤ aa.toInt) (hL : li.toInt = L) : vp_in aa 112 ∧ vp_in (aa + 2) 112 := by
  have h := out_b hl hs h32 c ha hL
  have e : (aa + 2).toInt = aa.toInt + 2 := ta (b := 2) (by show -2147483648 ≤ aa.toInt + 2; omega) (by show aa.toInt + 2 < 2147483648; omega)
  exact ⟨vin_i (by omega) (by omega), vin_i (by omega) (by omega)⟩
theorem out_e {li x y aa : Int32} {L : Int} (hl : 0 ≤ li.toInt ∧ li.toInt ≤ 50) (hs : 1 ≤ x.toInt ∧ x.toInt ≤ 8) (h32 : y = x - 1) (c : ¬ li + 2 * y ≤ aa) (ha : L ≤ aa.toInt) (hL : li.toInt = L) : (aa + 1).toInt = aa.toInt + 1 := by
  have h := out_b hl hs h32 c ha hL
  exact ta (b := 1) (by show -2147483648 ≤ aa.toInt + 1; omega) (by show aa.toInt + 1 < 2147483648; omega)
theorem p1 {p : Int32} (hp : 0 ≤ p.toInt ∧ p.toInt ≤ 8) (h : ¬ p = 0) : 1 ≤ p.toInt ∧ p.toInt ≤ 8 := by
  refine ⟨?_, hp.2⟩
  have : p.toInt ≠ 0 := fun e => h (Int32.toInt_inj.mp e)
  omega
theorem e_last {li p : Int32} (hl : 2 ≤ li.toInt ∧ li.toInt ≤ 50) (hp : 1 ≤ p.toInt ∧ p.toInt ≤ 8) : (li + 2 * p - 2).toInt = li.toInt + 2 * p.toInt - 2 ∧ (li + 2 * p - 2 + 1).toInt = li.toInt + 2 * p.toInt - 1 ∧ (li + 2 * p - 2 + 2).toInt = li.toInt + 2 * p.toInt ∧ (li + 2 * p - 2 + 3).toInt = li.toInt + 2 * p.toInt + 1 := by
  have e := (e33 (li := li) (p := p) ⟨by omega, hl.2⟩ ⟨by omega, hp.2⟩).1
  have e0 : (li + 2 * p - 2).toInt = li.toInt + 2 * p.toInt - 2 := by
    rw [tsu (b := 2) (by rw [e]; show -2147483648 ≤ li.toInt + 2 * p.toInt - 2; omega) (by rw [e]; show li.toInt + 2 * p.toInt - 2 < 2147483648; omega), e]
    rfl
  have key : ∀ d : Int32, 0 ≤ d.toInt → d.toInt ≤ 9 → (li + 2 * p - 2 + d).toInt = li.toInt + 2 * p.toInt - 2 + d.toInt := fun d h1 h2 => by
    rw [ta (by rw [e0]; omega) (by rw [e0]; omega), e0]
  refine ⟨e0, ?_, ?_, ?_⟩
  · rw [key 1 (by decide) (by decide)]; show li.toInt + 2 * p.toInt - 2 + 1 = _; omega
  · rw [key 2 (by decide) (by decide)]; show li.toInt + 2 * p.toInt - 2 + 2 = _; omega
  · rw [key 3 (by decide) (by decide)]; show li.toInt + 2 * p.toInt - 2 + 3 = _; omega
theorem ix_last {li p : Int32} (hl : 2 ≤ li.toInt ∧ li.toInt ≤ 50) (hp : 1 ≤ p.toInt ∧ p.toInt ≤ 8) : vp_in (li + 2 * p - 2) 112 ∧ vp_in (li + 2 * p - 2 + 1) 112 ∧ vp_in (li + 2 * p - 2 + 2) 112 ∧ vp_in (li + 2 * p - 2 + 3) 112 := by
  obtain ⟨a, b, c, d⟩ := e_last hl hp
  exact ⟨vin_i (by omega) (by omega), vin_i (by omega) (by omega), vin_i (by omega) (by omega), vin_i (by omega) (by omega)⟩
theorem dv_last {σ : Nat → Int32} {p : Int32} (hI : MI σ) (hp : 0 ≤ p.toInt ∧ p.toInt ≤ (σ 32).toInt) (h0 : ¬ p = 0) (hm : ¬ p = σ 32) : ¬ σ (Int32.toNatClampNeg (33 + 2 * p - 2 + 2)) - σ (Int32.toNatClampNeg (33 + 2 * p - 2)) = 0 := by
  have hb := hI.1.1
  have hp1 := p1 ⟨hp.1, by omega⟩ h0
  have hlt : p.toInt < (σ 32).toInt := by
    have : p.toInt ≠ (σ 32).toInt := fun e => hm (Int32.toInt_inj.mp e)
    omega
  obtain ⟨a, b, c, d⟩ := e_last (li := 33) ⟨by decide, by decide⟩ hp1
  have e3 : (33 : Int32).toInt = 33 := rfl
  rw [e3] at a c
  have n1 := clN (x := 33 + 2 * p - 2) (by omega)
  have n2 := clN (x := 33 + 2 * p - 2 + 2) (by omega)
  obtain ⟨j, hj⟩ : ∃ j : Nat, (j : Int) = p.toInt - 1 := ⟨(p.toInt - 1).toNat, by omega⟩
  rw [show Int32.toNatClampNeg (33 + 2 * p - 2) = 33 + 2 * j by omega, show Int32.toNatClampNeg (33 + 2 * p - 2 + 2) = 33 + 2 * (j + 1) by omega]
  intro hz
  have h1 := hI.1.2.1 j (by omega)
  have h2 := hI.1.2.2 j (by omega)
  have h3 := hI.1.2.2 (j + 1) (by omega)
  have h4 := congrArg Int32.toInt hz
  rw [tsu (by omega) (by omega)] at h4
  have : (0 : Int32).toInt = 0 := rfl
  omega
theorem ix_r {p : Int32} (hp : 0 ≤ p.toInt ∧ p.toInt ≤ 8) : vp_in (50 + 2 * p - 1) 112 := by
  have e := (e33 (li := 50) (p := p) ⟨by decide, by decide⟩ hp).1
  have e5 : (50 : Int32).toInt = 50 := rfl
  have e0 : (50 + 2 * p - 1).toInt = 50 + 2 * p.toInt - 1 := by
    rw [tsu (b := 1) (by rw [e, e5]; show -2147483648 ≤ 50 + 2 * p.toInt - 1; omega) (by rw [e, e5]; show 50 + 2 * p.toInt - 1 < 2147483648; omega), e]
    rfl
  exact vin_i (by omega) (by omega)
def L_X10_insert_P_45 (fu : Nat) (σ : Nat → Int32) (ke : Int32) (va : Int32) (aa : Int32) (σ1 : Nat → Int32) : (Nat → Int32) := match fu with
  | 0 => (fun _ => 0)
  | fu + 1 => if aa ≤ ((33 + (2 * (S_X10_place σ 33 (σ 32) ke))) + 1) then (let r5 : Nat → Int32 := va_up σ1 32 ((σ1 32) + 1); let r6 : Nat → Int32 := va_up r5 (Int32.toNatClampNeg (33 + (2 * (S_X10_place σ 33 (σ 32) ke)))) ke; va_up r6 (Int32.toNatClampNeg ((33 + (2 * (S_X10_place σ 33 (σ 32) ke))) + 1)) va) else (let r8 : Nat → Int32 := va_up σ1 (Int32.toNatClampNeg aa) (σ1 (Int32.toNatClampNeg (aa - 2))); L_X10_insert_P_45 fu σ ke va (aa + (-1)) r8)
def S_X10_insert_P (σ : Nat → Int32) (ke : Int32) (va : Int32) : (Nat → Int32) := if (S_X10_isAt σ 33 (σ 32) (S_X10_place σ 33 (σ 32) ke) ke) = 0 then (L_X10_insert_P_45 (((((33 : Int32) + (2 * (σ 32))) + 1).toInt - ((33 + (2 * (S_X10_place σ 33 (σ 32) ke))) + 1).toInt).toNat + 1) σ ke va ((33 + (2 * (σ 32))) + 1) σ) else (let r2 : Nat → Int32 := va_up σ (Int32.toNatClampNeg (33 + (2 * (S_X10_place σ 33 (σ 32) ke)))) ke; va_up r2 (Int32.toNatClampNeg ((33 + (2 * (S_X10_place σ 33 (σ 32) ke))) + 1)) va)
set_option maxRecDepth 100000 in
set_option maxHeartbeats 4000000 in
theorem w_X10_insert_P_45 {G : Geo} {p : Program} {l : Launch} {e : Env} {s : State} {m : MethodId} {args : Array Value} {below : List Frame} {meth : Method} {c : Code} {h : Hp} {σ : Nat → Int32} {ke : Int32} {va : Int32} (X : CX G (AA G) p s m meth c RX10 cX10_insert 7) (hret : meth.sig.returnType = none) (hM : MT G) (hr_37 : h 37 = σ) (hs : 0 ≤ (σ 32).toInt ∧ (σ 32).toInt ≤ 8) (Z : (Nat → Int32)) : ∀ (fu : Nat) (aa : Int32) (σ1 : Nat → Int32), (aa.toInt ≤ 111) → (aa.toInt - ((33 + (2 * (S_X10_place σ 33 (σ 32) ke))) + 1).toInt).toNat < fu → L_X10_insert_P_45 fu σ ke va aa σ1 = Z → VV G (AA G) p l e { frames := 1, cells := 0, slots := 0, locals := 24 } s m args below meth c 0 0 (MQ below (QC G (va_up h 37 Z) none) args s 0 0 (AA G)) 7 (va_up h 37 σ1) 45 [(0, .ref (gA G 36 0)), (1, .int 33), (2, .int 32), (3, .int ke), (4, .int va), (5, .int (S_X10_place σ 33 (σ 32) ke)), (6, .int aa)] [] := by
  intro fu
  induction fu with
  | zero =>
    intro aa σ1 ha hm
    exact absurd hm (Nat.not_lt_zero _)
  | succ fu ih =>
    intro aa σ1 ha hm hZ
    have hG := X.2.2.2.2.2.1
    have hT_36 : gT G 36 = 9 := hM 36 (by decide) (by decide)
    have hT_37 : gT G 37 = 10 := hM 37 (by decide) (by decide)
    refine q_iload X 6 dX10_insert_45 rfl ?_
    refine q_iload_n X 1 dX10_insert_47 rfl ?_
    refine q_iconst (v := 2) X dX10_insert_48 (by decide) ?_
    refine q_iload X 5 dX10_insert_49 rfl ?_
    refine q_imul X dX10_insert_51 ?_
    refine q_iadd X dX10_insert_52 ?_
    refine q_iconst (v := 1) X dX10_insert_53 (by decide) ?_
    refine q_iadd X dX10_insert_54 ?_
    refine q_icmp_le (tgt := 80) X dX10_insert_55 (by decide) (fun c4 => ?_) (fun c4 => ?_)
    · skip
      refine q_aload_n X 0 dX10_insert_80 rfl ?_
      refine q_get (fk := 1) (v := .ref (gA G 37 0)) X cf_X10 (ac_9_0 hT_36) (by decide) fl_X10_7 rfl rfl dX10_insert_81 rfl ?_
      refine q_iload_n X 2 dX10_insert_84 rfl ?_
      refine q_dup2 X dX10_insert_85 rfl rfl ?_
      refine q_iald (x := σ1 32) X (ac_10_0 hT_37) (by rw [hT_37]; exact vin_lit (by decide)) dX10_insert_86 (va_up_self _ _ _) rfl ?_
      refine q_iconst (v := 1) X dX10_insert_87 (by decide) ?_
      refine q_iadd X dX10_insert_88 ?_
      obtain ⟨r5, e_r5⟩ : ∃ z : Nat → Int32, z = va_up σ1 32 ((σ1 32) + 1) := ⟨_, rfl⟩
      refine q_iast (h2 := va_up h 37 r5) X (ac_10_0 hT_37) (by rw [hT_37]; exact vin_lit (by decide)) dX10_insert_89 (va_up_self _ _ _) (by rw [show 0 + 1 * Int32.toNatClampNeg 32 = 32 from rfl, e_r5, va_up_up]) ?_
      refine q_aload_n X 0 dX10_insert_90 rfl ?_
      refine q_get (fk := 1) (v := .ref (gA G 37 0)) X cf_X10 (ac_9_0 hT_36) (by decide) fl_X10_7 rfl rfl dX10_insert_91 rfl ?_
      refine q_iload_n X 1 dX10_insert_94 rfl ?_
      refine q_iconst (v := 2) X dX10_insert_95 (by decide) ?_
      refine q_iload X 5 dX10_insert_96 rfl ?_
      refine q_imul X dX10_insert_98 ?_
      refine q_iadd X dX10_insert_99 ?_
      refine q_iload_n X 3 dX10_insert_100 rfl ?_
      obtain ⟨r6, e_r6⟩ : ∃ z : Nat → Int32, z = va_up r5 (Int32.toNatClampNeg (33 + (2 * (S_X10_place σ 33 (σ 32) ke)))) ke := ⟨_, rfl⟩
      refine q_iast (h2 := va_up h 37 r6) X (ac_10_0 hT_37) (by rw [hT_37]; exact (ix_33 ⟨by decide, by decide⟩ (pbd8 hs)).1) dX10_insert_101 (va_up_self _ _ _) (by rw [Nat.zero_add, Nat.one_mul, e_r6, va_up_up]) ?_
      refine q_aload_n X 0 dX10_insert_102 rfl ?_
      refine q_get (fk := 1) (v := .ref (gA G 37 0)) X cf_X10 (ac_9_0 hT_36) (by decide) fl_X10_7 rfl rfl dX10_insert_103 rfl ?_
      refine q_iload_n X 1 dX10_insert_106 rfl ?_
      refine q_iconst (v := 2) X dX10_insert_107 (by decide) ?_
      refine q_iload X 5 dX10_insert_108 rfl ?_
      refine q_imul X dX10_insert_110 ?_
      refine q_iadd X dX10_insert_111 ?_
      refine q_iconst (v := 1) X dX10_insert_112 (by decide) ?_
      refine q_iadd X dX10_insert_113 ?_
      refine q_iload X 4 dX10_insert_114 rfl ?_
      obtain ⟨r7, e_r7⟩ : ∃ z : Nat → Int32, z = va_up r6 (Int32.toNatClampNeg ((33 + (2 * (S_X10_place σ 33 (σ 32) ke))) + 1)) va := ⟨_, rfl⟩
      refine q_iast (h2 := va_up h 37 r7) X (ac_10_0 hT_37) (by rw [hT_37]; exact (ix_33 ⟨by decide, by decide⟩ (pbd8 hs)).2) dX10_insert_116 (va_up_self _ _ _) (by rw [Nat.zero_add, Nat.one_mul, e_r7, va_up_up]) ?_
      have E : Z = r7 := by subst e_r7; subst e_r6; subst e_r5; exact hZ.symm.trans ((if_pos c4).trans rfl)
      exact q_vret X hret dX10_insert_117 rfl (by rw [E])
    · skip
      refine q_aload_n X 0 dX10_insert_58 rfl ?_
      refine q_get (fk := 1) (v := .ref (gA G 37 0)) X cf_X10 (ac_9_0 hT_36) (by decide) fl_X10_7 rfl rfl dX10_insert_59 rfl ?_
      refine q_iload X 6 dX10_insert_62 rfl ?_
      refine q_aload_n X 0 dX10_insert_64 rfl ?_
      refine q_get (fk := 1) (v := .ref (gA G 37 0)) X cf_X10 (ac_9_0 hT_36) (by decide) fl_X10_7 rfl rfl dX10_insert_65 rfl ?_
      refine q_iload X 6 dX10_insert_68 rfl ?_
      refine q_iconst (v := 2) X dX10_insert_70 (by decide) ?_
      refine q_isub X dX10_insert_71 ?_
      refine q_iald (x := σ1 (Int32.toNatClampNeg (aa - 2))) X (ac_10_0 hT_37) (by rw [hT_37]; exact (ix_at ⟨by decide, by decide⟩ (pbd8 hs) ha c4).2) dX10_insert_72 (va_up_self _ _ _) (by rw [Nat.zero_add, Nat.one_mul]) ?_
      obtain ⟨r8, e_r8⟩ : ∃ z : Nat → Int32, z = va_up σ1 (Int32.toNatClampNeg aa) (σ1 (Int32.toNatClampNeg (aa - 2))) := ⟨_, rfl⟩
      refine q_iast (h2 := va_up h 37 r8) X (ac_10_0 hT_37) (by rw [hT_37]; exact (ix_at ⟨by decide, by decide⟩ (pbd8 hs) ha c4).1) dX10_insert_73 (va_up_self _ _ _) (by rw [Nat.zero_add, Nat.one_mul, e_r8, va_up_up]) ?_
      refine q_iinc (v := aa + (-1)) (lv' := [(6, .int (aa + (-1))), (0, .ref (gA G 36 0)), (1, .int 33), (2, .int 32), (3, .int ke), (4, .int va), (5, .int (S_X10_place σ 33 (σ 32) ke))]) X 6 dX10_insert_74 rfl rfl (by decide) rfl ?_
      refine q_goto (tgt := 45) X dX10_insert_77 (by decide) ?_
      refine q_sub (lv2 := [(0, .ref (gA G 36 0)), (1, .int 33), (2, .int 32), (3, .int ke), (4, .int va), (5, .int (S_X10_place σ 33 (σ 32) ke)), (6, .int (aa + (-1)))]) [1, 2, 3, 4, 5, 6, 0] rfl ?_
      have E : L_X10_insert_P_45 fu σ ke va (aa + (-1)) r8 = Z := Eq.trans (Eq.symm (by subst e_r8; exact (if_neg c4).trans rfl)) hZ
      exact ih (aa + (-1)) r8 (by subst e_r8; exact at_dn ha c4) (by subst e_r8; exact ms_dn c4 hm) E
set_option maxRecDepth 100000 in
set_option maxHeartbeats 4000000 in
theorem c_X10_insert_P {G : Geo} {l : Launch} (hG : GOK G) {h : Hp} {σ : Nat → Int32} (ke : Int32) (va : Int32) (hM : MT G) (hr_37 : h 37 = σ) (hs : 0 ≤ (σ 32).toInt ∧ (σ 32).toInt ≤ 8) : CM G l yX10_insert cX10_insert 7 none 1 24 [.ref (gA G 36 0), .int 33, .int 32, .int ke, .int va] h (va_up h 37 (S_X10_insert_P σ ke va)) none := by
  obtain ⟨Z, hZ⟩ : ∃ Z, S_X10_insert_P σ ke va = Z := ⟨_, rfl⟩
  rw [hZ]
  refine q_enter hG mf_X10_insert (Nat.le_of_ble_eq_true rfl) ?_
  intro p e s m below meth c X hret
  have hT_36 : gT G 36 = 9 := hM 36 (by decide) (by decide)
  have hT_37 : gT G 37 = 10 := hM 37 (by decide) (by decide)
  refine q_lv (lv2 := [(0, .ref (gA G 36 0)), (1, .int 33), (2, .int 32), (3, .int ke), (4, .int va)]) rfl ?_
  refine q_aload_n X 0 dX10_insert_0 rfl ?_
  refine q_iload_n X 1 dX10_insert_1 rfl ?_
  refine q_aload_n X 0 dX10_insert_2 rfl ?_
  refine q_get (fk := 1) (v := .ref (gA G 37 0)) X cf_X10 (ac_9_0 hT_36) (by decide) fl_X10_7 rfl rfl dX10_insert_3 rfl ?_
  refine q_iload_n X 2 dX10_insert_6 rfl ?_
  refine q_iald (x := σ 32) X (ac_10_0 hT_37) (by rw [hT_37]; exact vin_lit (by decide)) dX10_insert_7 (hr_37) rfl ?_
  refine q_iload_n X 3 dX10_insert_8 rfl ?_
  refine q_callV (h1 := _) (rest := []) (As := [.int 33, .int (σ 32), .int ke]) X (c_X10_place (l := l) hG (σ := σ)  33 (σ 32) ke hM (hr_37) ⟨by decide, by decide⟩ hs.2) mf_X10_place mv_X10_place cf_X10 rfl (ac_9_0 hT_36) lk_X10_48 rfl ⟨by decide, by decide⟩ ⟨Nat.le_refl _, Nat.le_refl _⟩ rfl (Nat.le_of_ble_eq_true rfl) dX10_insert_9 (st2 := [.int (S_X10_place σ 33 (σ 32) ke)]) rfl ?_
  refine q_istore (lv' := [(5, .int (S_X10_place σ 33 (σ 32) ke)), (0, .ref (gA G 36 0)), (1, .int 33), (2, .int 32), (3, .int ke), (4, .int va)]) X dX10_insert_12 (by decide) rfl ?_
  refine q_aload_n X 1 dX10_insert_14 rfl ?_
  refine q_iload_n X 2 dX10_insert_15 rfl ?_
  refine q_aload_n X 1 dX10_insert_16 rfl ?_
  refine q_get (fk := 1) (v := .ref (gA G 37 0)) X cf_X10 (ac_9_0 hT_36) (by decide) fl_X10_7 rfl rfl dX10_insert_17 rfl ?_
  refine q_iload_n X 3 dX10_insert_20 rfl ?_
  refine q_iald (x := σ 32) X (ac_10_0 hT_37) (by rw [hT_37]; exact vin_lit (by decide)) dX10_insert_21 (hr_37) rfl ?_
  refine q_iload X 0 dX10_insert_22 rfl ?_
  refine q_iload_n X 4 dX10_insert_24 rfl ?_
  refine q_callV (h1 := _) (rest := []) (As := [.int 33, .int (σ 32), .int (S_X10_place σ 33 (σ 32) ke), .int ke]) X (c_X10_isAt (l := l) hG (σ := σ)  33 (σ 32) (S_X10_place σ 33 (σ 32) ke) ke hM (hr_37) ⟨by decide, by decide⟩ hs.2 (place_bd hs.1).1) mf_X10_isAt mv_X10_isAt cf_X10 rfl (ac_9_0 hT_36) lk_X10_52 rfl ⟨by decide, by decide⟩ ⟨Nat.le_refl _, Nat.le_refl _⟩ rfl (Nat.le_of_ble_eq_true rfl) dX10_insert_25 (st2 := [.int (S_X10_isAt σ 33 (σ 32) (S_X10_place σ 33 (σ 32) ke) ke)]) rfl ?_
  refine q_if_ne (tgt := 90) X dX10_insert_28 (by decide) (fun c1 => ?_) (fun c1 => ?_)
  · skip
    refine q_aload_n X 1 dX10_insert_90 rfl ?_
    refine q_get (fk := 1) (v := .ref (gA G 37 0)) X cf_X10 (ac_9_0 hT_36) (by decide) fl_X10_7 rfl rfl dX10_insert_91 rfl ?_
    refine q_iload_n X 2 dX10_insert_94 rfl ?_
    refine q_iconst (v := 2) X dX10_insert_95 (by decide) ?_
    refine q_iload X 0 dX10_insert_96 rfl ?_
    refine q_imul X dX10_insert_98 ?_
    refine q_iadd X dX10_insert_99 ?_
    refine q_iload_n X 4 dX10_insert_100 rfl ?_
    obtain ⟨r2, e_r2⟩ : ∃ z : Nat → Int32, z = va_up σ (Int32.toNatClampNeg (33 + (2 * (S_X10_place σ 33 (σ 32) ke)))) ke := ⟨_, rfl⟩
    refine q_iast (h2 := va_up h 37 r2) X (ac_10_0 hT_37) (by rw [hT_37]; exact (ix_33 ⟨by decide, by decide⟩ (pbd8 hs)).1) dX10_insert_101 (hr_37) (by rw [Nat.zero_add, Nat.one_mul, e_r2]) ?_
    refine q_aload_n X 1 dX10_insert_102 rfl ?_
    refine q_get (fk := 1) (v := .ref (gA G 37 0)) X cf_X10 (ac_9_0 hT_36) (by decide) fl_X10_7 rfl rfl dX10_insert_103 rfl ?_
    refine q_iload_n X 2 dX10_insert_106 rfl ?_
    refine q_iconst (v := 2) X dX10_insert_107 (by decide) ?_
    refine q_iload X 0 dX10_insert_108 rfl ?_
    refine q_imul X dX10_insert_110 ?_
    refine q_iadd X dX10_insert_111 ?_
    refine q_iconst (v := 1) X dX10_insert_112 (by decide) ?_
    refine q_iadd X dX10_insert_113 ?_
    refine q_iload X 5 dX10_insert_114 rfl ?_
    obtain ⟨r3, e_r3⟩ : ∃ z : Nat → Int32, z = va_up r2 (Int32.toNatClampNeg ((33 + (2 * (S_X10_place σ 33 (σ 32) ke))) + 1)) va := ⟨_, rfl⟩
    refine q_iast (h2 := va_up h 37 r3) X (ac_10_0 hT_37) (by rw [hT_37]; exact (ix_33 ⟨by decide, by decide⟩ (pbd8 hs)).2) dX10_insert_116 (va_up_self _ _ _) (by rw [Nat.zero_add, Nat.one_mul, e_r3, va_up_up]) ?_
    have E : Z = r3 := by subst e_r3; subst e_r2; exact hZ.symm.trans ((if_neg c1).trans rfl)
    exact q_vret X hret dX10_insert_117 rfl (by rw [E])
  · skip
    refine q_iload_n X 2 dX10_insert_31 rfl ?_
    refine q_iconst (v := 2) X dX10_insert_32 (by decide) ?_
    refine q_aload_n X 1 dX10_insert_33 rfl ?_
    refine q_get (fk := 1) (v := .ref (gA G 37 0)) X cf_X10 (ac_9_0 hT_36) (by decide) fl_X10_7 rfl rfl dX10_insert_34 rfl ?_
    refine q_iload_n X 3 dX10_insert_37 rfl ?_
    refine q_iald (x := σ 32) X (ac_10_0 hT_37) (by rw [hT_37]; exact vin_lit (by decide)) dX10_insert_38 (hr_37) rfl ?_
    refine q_imul X dX10_insert_39 ?_
    refine q_iadd X dX10_insert_40 ?_
    refine q_iconst (v := 1) X dX10_insert_41 (by decide) ?_
    refine q_iadd X dX10_insert_42 ?_
    refine q_istore (lv' := [(6, .int ((33 + (2 * (σ 32))) + 1)), (5, .int (S_X10_place σ 33 (σ 32) ke)), (0, .ref (gA G 36 0)), (1, .int 33), (2, .int 32), (3, .int ke), (4, .int va)]) X dX10_insert_43 (by decide) rfl ?_
    refine q_sub (lv2 := [(0, .ref (gA G 36 0)), (1, .int 33), (2, .int 32), (3, .int ke), (4, .int va), (5, .int (S_X10_place σ 33 (σ 32) ke)), (6, .int ((33 + (2 * (σ 32))) + 1))]) [2, 3, 4, 5, 6, 1, 0] rfl ?_
    refine q_eq (h2 := va_up h 37 σ) (va_up_id2 (hr_37)).symm rfl ?_
    have E : L_X10_insert_P_45 (((((33 : Int32) + (2 * (σ 32))) + 1).toInt - ((33 + (2 * (S_X10_place σ 33 (σ 32) ke))) + 1).toInt).toNat + 1) σ ke va ((33 + (2 * (σ 32))) + 1) σ = Z := Eq.trans (Eq.symm (by exact (if_pos c1).trans rfl)) hZ
    exact w_X10_insert_P_45 X hret hM hr_37 hs Z (((((33 : Int32) + (2 * (σ 32))) + 1).toInt - ((33 + (2 * (S_X10_place σ 33 (σ 32) ke))) + 1).toInt).toNat + 1) ((33 + (2 * (σ 32))) + 1) σ (by have := (e33 (li := 33) ⟨by decide, by decide⟩ hs).2; have := hs.2; have : (33 : Int32).toInt = 33 := rfl; omega) (by exact Nat.lt_succ_self _) E
def L_X10_insert_R_45 (fu : Nat) (σ : Nat → Int32) (ke : Int32) (va : Int32) (aa : Int32) (σ1 : Nat → Int32) : (Nat → Int32) := match fu with
  | 0 => (fun _ => 0)
  | fu + 1 => if aa ≤ ((50 + (2 * (S_X10_place σ 50 (σ 49) ke))) + 1) then (let r5 : Nat → Int32 := va_up σ1 49 ((σ1 49) + 1); let r6 : Nat → Int32 := va_up r5 (Int32.toNatClampNeg (50 + (2 * (S_X10_place σ 50 (σ 49) ke)))) ke; va_up r6 (Int32.toNatClampNeg ((50 + (2 * (S_X10_place σ 50 (σ 49) ke))) + 1)) va) else (let r8 : Nat → Int32 := va_up σ1 (Int32.toNatClampNeg aa) (σ1 (Int32.toNatClampNeg (aa - 2))); L_X10_insert_R_45 fu σ ke va (aa + (-1)) r8)
def S_X10_insert_R (σ : Nat → Int32) (ke : Int32) (va : Int32) : (Nat → Int32) := if (S_X10_isAt σ 50 (σ 49) (S_X10_place σ 50 (σ 49) ke) ke) = 0 then (L_X10_insert_R_45 (((((50 : Int32) + (2 * (σ 49))) + 1).toInt - ((50 + (2 * (S_X10_place σ 50 (σ 49) ke))) + 1).toInt).toNat + 1) σ ke va ((50 + (2 * (σ 49))) + 1) σ) else (let r2 : Nat → Int32 := va_up σ (Int32.toNatClampNeg (50 + (2 * (S_X10_place σ 50 (σ 49) ke)))) ke; va_up r2 (Int32.toNatClampNeg ((50 + (2 * (S_X10_place σ 50 (σ 49) ke))) + 1)) va)
set_option maxRecDepth 100000 in
set_option maxHeartbeats 4000000 in
theorem w_X10_insert_R_45 {G : Geo} {p : Program} {l : Launch} {e : Env} {s : State} {m : MethodId} {args : Array Value} {below : List Frame} {meth : Method} {c : Code} {h : Hp} {σ : Nat → Int32} {ke : Int32} {va : Int32} (X : CX G (AA G) p s m meth c RX10 cX10_insert 7) (hret : meth.sig.returnType = none) (hM : MT G) (hr_37 : h 37 = σ) (hs : 0 ≤ (σ 49).toInt ∧ (σ 49).toInt ≤ 8) (Z : (Nat → Int32)) : ∀ (fu : Nat) (aa : Int32) (σ1 : Nat → Int32), (aa.toInt ≤ 111) → (aa.toInt - ((50 + (2 * (S_X10_place σ 50 (σ 49) ke))) + 1).toInt).toNat < fu → L_X10_insert_R_45 fu σ ke va aa σ1 = Z → VV G (AA G) p l e { frames := 1, cells := 0, slots := 0, locals := 24 } s m args below meth c 0 0 (MQ below (QC G (va_up h 37 Z) none) args s 0 0 (AA G)) 7 (va_up h 37 σ1) 45 [(0, .ref (gA G 36 0)), (1, .int 50), (2, .int 49), (3, .int ke), (4, .int va), (5, .int (S_X10_place σ 50 (σ 49) ke)), (6, .int aa)] [] := by
  intro fu
  induction fu with
  | zero =>
    intro aa σ1 ha hm
    exact absurd hm (Nat.not_lt_zero _)
  | succ fu ih =>
    intro aa σ1 ha hm hZ
    have hG := X.2.2.2.2.2.1
    have hT_36 : gT G 36 = 9 := hM 36 (by decide) (by decide)
    have hT_37 : gT G 37 = 10 := hM 37 (by decide) (by decide)
    refine q_iload X 6 dX10_insert_45 rfl ?_
    refine q_iload_n X 1 dX10_insert_47 rfl ?_
    refine q_iconst (v := 2) X dX10_insert_48 (by decide) ?_
    refine q_iload X 5 dX10_insert_49 rfl ?_
    refine q_imul X dX10_insert_51 ?_
    refine q_iadd X dX10_insert_52 ?_
    refine q_iconst (v := 1) X dX10_insert_53 (by decide) ?_
    refine q_iadd X dX10_insert_54 ?_
    refine q_icmp_le (tgt := 80) X dX10_insert_55 (by decide) (fun c4 => ?_) (fun c4 => ?_)
    · skip
      refine q_aload_n X 0 dX10_insert_80 rfl ?_
      refine q_get (fk := 1) (v := .ref (gA G 37 0)) X cf_X10 (ac_9_0 hT_36) (by decide) fl_X10_7 rfl rfl dX10_insert_81 rfl ?_
      refine q_iload_n X 2 dX10_insert_84 rfl ?_
      refine q_dup2 X dX10_insert_85 rfl rfl ?_
      refine q_iald (x := σ1 49) X (ac_10_0 hT_37) (by rw [hT_37]; exact vin_lit (by decide)) dX10_insert_86 (va_up_self _ _ _) rfl ?_
      refine q_iconst (v := 1) X dX10_insert_87 (by decide) ?_
      refine q_iadd X dX10_insert_88 ?_
      obtain ⟨r5, e_r5⟩ : ∃ z : Nat → Int32, z = va_up σ1 49 ((σ1 49) + 1) := ⟨_, rfl⟩
      refine q_iast (h2 := va_up h 37 r5) X (ac_10_0 hT_37) (by rw [hT_37]; exact vin_lit (by decide)) dX10_insert_89 (va_up_self _ _ _) (by rw [show 0 + 1 * Int32.toNatClampNeg 49 = 49 from rfl, e_r5, va_up_up]) ?_
      refine q_aload_n X 0 dX10_insert_90 rfl ?_
      refine q_get (fk := 1) (v := .ref (gA G 37 0)) X cf_X10 (ac_9_0 hT_36) (by decide) fl_X10_7 rfl rfl dX10_insert_91 rfl ?_
      refine q_iload_n X 1 dX10_insert_94 rfl ?_
      refine q_iconst (v := 2) X dX10_insert_95 (by decide) ?_
      refine q_iload X 5 dX10_insert_96 rfl ?_
      refine q_imul X dX10_insert_98 ?_
      refine q_iadd X dX10_insert_99 ?_
      refine q_iload_n X 3 dX10_insert_100 rfl ?_
      obtain ⟨r6, e_r6⟩ : ∃ z : Nat → Int32, z = va_up r5 (Int32.toNatClampNeg (50 + (2 * (S_X10_place σ 50 (σ 49) ke)))) ke := ⟨_, rfl⟩
      refine q_iast (h2 := va_up h 37 r6) X (ac_10_0 hT_37) (by rw [hT_37]; exact (ix_33 ⟨by decide, by decide⟩ (pbd8 hs)).1) dX10_insert_101 (va_up_self _ _ _) (by rw [Nat.zero_add, Nat.one_mul, e_r6, va_up_up]) ?_
      refine q_aload_n X 0 dX10_insert_102 rfl ?_
      refine q_get (fk := 1) (v := .ref (gA G 37 0)) X cf_X10 (ac_9_0 hT_36) (by decide) fl_X10_7 rfl rfl dX10_insert_103 rfl ?_
      refine q_iload_n X 1 dX10_insert_106 rfl ?_
      refine q_iconst (v := 2) X dX10_insert_107 (by decide) ?_
      refine q_iload X 5 dX10_insert_108 rfl ?_
      refine q_imul X dX10_insert_110 ?_
      refine q_iadd X dX10_insert_111 ?_
      refine q_iconst (v := 1) X dX10_insert_112 (by decide) ?_
      refine q_iadd X dX10_insert_113 ?_
      refine q_iload X 4 dX10_insert_114 rfl ?_
      obtain ⟨r7, e_r7⟩ : ∃ z : Nat → Int32, z = va_up r6 (Int32.toNatClampNeg ((50 + (2 * (S_X10_place σ 50 (σ 49) ke))) + 1)) va := ⟨_, rfl⟩
      refine q_iast (h2 := va_up h 37 r7) X (ac_10_0 hT_37) (by rw [hT_37]; exact (ix_33 ⟨by decide, by decide⟩ (pbd8 hs)).2) dX10_insert_116 (va_up_self _ _ _) (by rw [Nat.zero_add, Nat.one_mul, e_r7, va_up_up]) ?_
      have E : Z = r7 := by subst e_r7; subst e_r6; subst e_r5; exact hZ.symm.trans ((if_pos c4).trans rfl)
      exact q_vret X hret dX10_insert_117 rfl (by rw [E])
    · skip
      refine q_aload_n X 0 dX10_insert_58 rfl ?_
      refine q_get (fk := 1) (v := .ref (gA G 37 0)) X cf_X10 (ac_9_0 hT_36) (by decide) fl_X10_7 rfl rfl dX10_insert_59 rfl ?_
      refine q_iload X 6 dX10_insert_62 rfl ?_
      refine q_aload_n X 0 dX10_insert_64 rfl ?_
      refine q_get (fk := 1) (v := .ref (gA G 37 0)) X cf_X10 (ac_9_0 hT_36) (by decide) fl_X10_7 rfl rfl dX10_insert_65 rfl ?_
      refine q_iload X 6 dX10_insert_68 rfl ?_
      refine q_iconst (v := 2) X dX10_insert_70 (by decide) ?_
      refine q_isub X dX10_insert_71 ?_
      refine q_iald (x := σ1 (Int32.toNatClampNeg (aa - 2))) X (ac_10_0 hT_37) (by rw [hT_37]; exact (ix_at ⟨by decide, by decide⟩ (pbd8 hs) ha c4).2) dX10_insert_72 (va_up_self _ _ _) (by rw [Nat.zero_add, Nat.one_mul]) ?_
      obtain ⟨r8, e_r8⟩ : ∃ z : Nat → Int32, z = va_up σ1 (Int32.toNatClampNeg aa) (σ1 (Int32.toNatClampNeg (aa - 2))) := ⟨_, rfl⟩
      refine q_iast (h2 := va_up h 37 r8) X (ac_10_0 hT_37) (by rw [hT_37]; exact (ix_at ⟨by decide, by decide⟩ (pbd8 hs) ha c4).1) dX10_insert_73 (va_up_self _ _ _) (by rw [Nat.zero_add, Nat.one_mul, e_r8, va_up_up]) ?_
      refine q_iinc (v := aa + (-1)) (lv' := [(6, .int (aa + (-1))), (0, .ref (gA G 36 0)), (1, .int 50), (2, .int 49), (3, .int ke), (4, .int va), (5, .int (S_X10_place σ 50 (σ 49) ke))]) X 6 dX10_insert_74 rfl rfl (by decide) rfl ?_
      refine q_goto (tgt := 45) X dX10_insert_77 (by decide) ?_
      refine q_sub (lv2 := [(0, .ref (gA G 36 0)), (1, .int 50), (2, .int 49), (3, .int ke), (4, .int va), (5, .int (S_X10_place σ 50 (σ 49) ke)), (6, .int (aa + (-1)))]) [1, 2, 3, 4, 5, 6, 0] rfl ?_
      have E : L_X10_insert_R_45 fu σ ke va (aa + (-1)) r8 = Z := Eq.trans (Eq.symm (by subst e_r8; exact (if_neg c4).trans rfl)) hZ
      exact ih (aa + (-1)) r8 (by subst e_r8; exact at_dn ha c4) (by subst e_r8; exact ms_dn c4 hm) E
set_option maxRecDepth 100000 in
set_option maxHeartbeats 4000000 in
theorem c_X10_insert_R {G : Geo} {l : Launch} (hG : GOK G) {h : Hp} {σ : Nat → Int32} (ke : Int32) (va : Int32) (hM : MT G) (hr_37 : h 37 = σ) (hs : 0 ≤ (σ 49).toInt ∧ (σ 49).toInt ≤ 8) : CM G l yX10_insert cX10_insert 7 none 1 24 [.ref (gA G 36 0), .int 50, .int 49, .int ke, .int va] h (va_up h 37 (S_X10_insert_R σ ke va)) none := by
  obtain ⟨Z, hZ⟩ : ∃ Z, S_X10_insert_R σ ke va = Z := ⟨_, rfl⟩
  rw [hZ]
  refine q_enter hG mf_X10_insert (Nat.le_of_ble_eq_true rfl) ?_
  intro p e s m below meth c X hret
  have hT_36 : gT G 36 = 9 := hM 36 (by decide) (by decide)
  have hT_37 : gT G 37 = 10 := hM 37 (by decide) (by decide)
  refine q_lv (lv2 := [(0, .ref (gA G 36 0)), (1, .int 50), (2, .int 49), (3, .int ke), (4, .int va)]) rfl ?_
  refine q_aload_n X 0 dX10_insert_0 rfl ?_
  refine q_iload_n X 1 dX10_insert_1 rfl ?_
  refine q_aload_n X 0 dX10_insert_2 rfl ?_
  refine q_get (fk := 1) (v := .ref (gA G 37 0)) X cf_X10 (ac_9_0 hT_36) (by decide) fl_X10_7 rfl rfl dX10_insert_3 rfl ?_
  refine q_iload_n X 2 dX10_insert_6 rfl ?_
  refine q_iald (x := σ 49) X (ac_10_0 hT_37) (by rw [hT_37]; exact vin_lit (by decide)) dX10_insert_7 (hr_37) rfl ?_
  refine q_iload_n X 3 dX10_insert_8 rfl ?_
  refine q_callV (h1 := _) (rest := []) (As := [.int 50, .int (σ 49), .int ke]) X (c_X10_place (l := l) hG (σ := σ)  50 (σ 49) ke hM (hr_37) ⟨by decide, by decide⟩ hs.2) mf_X10_place mv_X10_place cf_X10 rfl (ac_9_0 hT_36) lk_X10_48 rfl ⟨by decide, by decide⟩ ⟨Nat.le_refl _, Nat.le_refl _⟩ rfl (Nat.le_of_ble_eq_true rfl) dX10_insert_9 (st2 := [.int (S_X10_place σ 50 (σ 49) ke)]) rfl ?_
  refine q_istore (lv' := [(5, .int (S_X10_place σ 50 (σ 49) ke)), (0, .ref (gA G 36 0)), (1, .int 50), (2, .int 49), (3, .int ke), (4, .int va)]) X dX10_insert_12 (by decide) rfl ?_
  refine q_aload_n X 1 dX10_insert_14 rfl ?_
  refine q_iload_n X 2 dX10_insert_15 rfl ?_
  refine q_aload_n X 1 dX10_insert_16 rfl ?_
  refine q_get (fk := 1) (v := .ref (gA G 37 0)) X cf_X10 (ac_9_0 hT_36) (by decide) fl_X10_7 rfl rfl dX10_insert_17 rfl ?_
  refine q_iload_n X 3 dX10_insert_20 rfl ?_
  refine q_iald (x := σ 49) X (ac_10_0 hT_37) (by rw [hT_37]; exact vin_lit (by decide)) dX10_insert_21 (hr_37) rfl ?_
  refine q_iload X 0 dX10_insert_22 rfl ?_
  refine q_iload_n X 4 dX10_insert_24 rfl ?_
  refine q_callV (h1 := _) (rest := []) (As := [.int 50, .int (σ 49), .int (S_X10_place σ 50 (σ 49) ke), .int ke]) X (c_X10_isAt (l := l) hG (σ := σ)  50 (σ 49) (S_X10_place σ 50 (σ 49) ke) ke hM (hr_37) ⟨by decide, by decide⟩ hs.2 (place_bd hs.1).1) mf_X10_isAt mv_X10_isAt cf_X10 rfl (ac_9_0 hT_36) lk_X10_52 rfl ⟨by decide, by decide⟩ ⟨Nat.le_refl _, Nat.le_refl _⟩ rfl (Nat.le_of_ble_eq_true rfl) dX10_insert_25 (st2 := [.int (S_X10_isAt σ 50 (σ 49) (S_X10_place σ 50 (σ 49) ke) ke)]) rfl ?_
  refine q_if_ne (tgt := 90) X dX10_insert_28 (by decide) (fun c1 => ?_) (fun c1 => ?_)
  · skip
    refine q_aload_n X 1 dX10_insert_90 rfl ?_
    refine q_get (fk := 1) (v := .ref (gA G 37 0)) X cf_X10 (ac_9_0 hT_36) (by decide) fl_X10_7 rfl rfl dX10_insert_91 rfl ?_
    refine q_iload_n X 2 dX10_insert_94 rfl ?_
    refine q_iconst (v := 2) X dX10_insert_95 (by decide) ?_
    refine q_iload X 0 dX10_insert_96 rfl ?_
    refine q_imul X dX10_insert_98 ?_
    refine q_iadd X dX10_insert_99 ?_
    refine q_iload_n X 4 dX10_insert_100 rfl ?_
    obtain ⟨r2, e_r2⟩ : ∃ z : Nat → Int32, z = va_up σ (Int32.toNatClampNeg (50 + (2 * (S_X10_place σ 50 (σ 49) ke)))) ke := ⟨_, rfl⟩
    refine q_iast (h2 := va_up h 37 r2) X (ac_10_0 hT_37) (by rw [hT_37]; exact (ix_33 ⟨by decide, by decide⟩ (pbd8 hs)).1) dX10_insert_101 (hr_37) (by rw [Nat.zero_add, Nat.one_mul, e_r2]) ?_
    refine q_aload_n X 1 dX10_insert_102 rfl ?_
    refine q_get (fk := 1) (v := .ref (gA G 37 0)) X cf_X10 (ac_9_0 hT_36) (by decide) fl_X10_7 rfl rfl dX10_insert_103 rfl ?_
    refine q_iload_n X 2 dX10_insert_106 rfl ?_
    refine q_iconst (v := 2) X dX10_insert_107 (by decide) ?_
    refine q_iload X 0 dX10_insert_108 rfl ?_
    refine q_imul X dX10_insert_110 ?_
    refine q_iadd X dX10_insert_111 ?_
    refine q_iconst (v := 1) X dX10_insert_112 (by decide) ?_
    refine q_iadd X dX10_insert_113 ?_
    refine q_iload X 5 dX10_insert_114 rfl ?_
    obtain ⟨r3, e_r3⟩ : ∃ z : Nat → Int32, z = va_up r2 (Int32.toNatClampNeg ((50 + (2 * (S_X10_place σ 50 (σ 49) ke))) + 1)) va := ⟨_, rfl⟩
    refine q_iast (h2 := va_up h 37 r3) X (ac_10_0 hT_37) (by rw [hT_37]; exact (ix_33 ⟨by decide, by decide⟩ (pbd8 hs)).2) dX10_insert_116 (va_up_self _ _ _) (by rw [Nat.zero_add, Nat.one_mul, e_r3, va_up_up]) ?_
    have E : Z = r3 := by subst e_r3; subst e_r2; exact hZ.symm.trans ((if_neg c1).trans rfl)
    exact q_vret X hret dX10_insert_117 rfl (by rw [E])
  · skip
    refine q_iload_n X 2 dX10_insert_31 rfl ?_
    refine q_iconst (v := 2) X dX10_insert_32 (by decide) ?_
    refine q_aload_n X 1 dX10_insert_33 rfl ?_
    refine q_get (fk := 1) (v := .ref (gA G 37 0)) X cf_X10 (ac_9_0 hT_36) (by decide) fl_X10_7 rfl rfl dX10_insert_34 rfl ?_
    refine q_iload_n X 3 dX10_insert_37 rfl ?_
    refine q_iald (x := σ 49) X (ac_10_0 hT_37) (by rw [hT_37]; exact vin_lit (by decide)) dX10_insert_38 (hr_37) rfl ?_
    refine q_imul X dX10_insert_39 ?_
    refine q_iadd X dX10_insert_40 ?_
    refine q_iconst (v := 1) X dX10_insert_41 (by decide) ?_
    refine q_iadd X dX10_insert_42 ?_
    refine q_istore (lv' := [(6, .int ((50 + (2 * (σ 49))) + 1)), (5, .int (S_X10_place σ 50 (σ 49) ke)), (0, .ref (gA G 36 0)), (1, .int 50), (2, .int 49), (3, .int ke), (4, .int va)]) X dX10_insert_43 (by decide) rfl ?_
    refine q_sub (lv2 := [(0, .ref (gA G 36 0)), (1, .int 50), (2, .int 49), (3, .int ke), (4, .int va), (5, .int (S_X10_place σ 50 (σ 49) ke)), (6, .int ((50 + (2 * (σ 49))) + 1))]) [2, 3, 4, 5, 6, 1, 0] rfl ?_
    refine q_eq (h2 := va_up h 37 σ) (va_up_id2 (hr_37)).symm rfl ?_
    have E : L_X10_insert_R_45 (((((50 : Int32) + (2 * (σ 49))) + 1).toInt - ((50 + (2 * (S_X10_place σ 50 (σ 49) ke))) + 1).toInt).toNat + 1) σ ke va ((50 + (2 * (σ 49))) + 1) σ = Z := Eq.trans (Eq.symm (by exact (if_pos c1).trans rfl)) hZ
    exact w_X10_insert_R_45 X hret hM hr_37 hs Z (((((50 : Int32) + (2 * (σ 49))) + 1).toInt - ((50 + (2 * (S_X10_place σ 50 (σ 49) ke))) + 1).toInt).toNat + 1) ((50 + (2 * (σ 49))) + 1) σ (by have := (e33 (li := 50) ⟨by decide, by decide⟩ hs).2; have := hs.2; have : (50 : Int32).toInt = 50 := rfl; omega) (by exact Nat.lt_succ_self _) E
def L_X10_takeOut_P_17 (fu : Nat) (σ : Nat → Int32) (kk : Int32) (aa : Int32) (σ1 : Nat → Int32) : (Nat → Int32) := match fu with
  | 0 => (fun _ => 0)
  | fu + 1 => if (33 + (2 * (σ1 32))) ≤ aa then (σ1) else (let r3 : Nat → Int32 := va_up σ1 (Int32.toNatClampNeg aa) (σ1 (Int32.toNatClampNeg (aa + 2))); L_X10_takeOut_P_17 fu σ kk (aa + 1) r3)
def S_X10_takeOut_P (σ : Nat → Int32) (kk : Int32) : (Nat → Int32) := let r1 : Nat → Int32 := va_up σ 32 ((σ 32) - 1); L_X10_takeOut_P_17 ((((33 : Int32) + (2 * ((σ 32) - 1))).toInt - (33 + (2 * kk)).toInt).toNat + 1) σ kk (33 + (2 * kk)) r1
set_option maxRecDepth 100000 in
set_option maxHeartbeats 4000000 in
theorem w_X10_takeOut_P_17 {G : Geo} {p : Program} {l : Launch} {e : Env} {s : State} {m : MethodId} {args : Array Value} {below : List Frame} {meth : Method} {c : Code} {h : Hp} {σ : Nat → Int32} {kk : Int32} (X : CX G (AA G) p s m meth c RX10 cX10_takeOut 5) (hret : meth.sig.returnType = none) (hM : MT G) (hr_37 : h 37 = σ) (hs : 1 ≤ (σ 32).toInt ∧ (σ 32).toInt ≤ 8) (hk0 : 0 ≤ kk.toInt ∧ kk.toInt ≤ 8) (Z : (Nat → Int32)) : ∀ (fu : Nat) (aa : Int32) (σ1 : Nat → Int32), (σ1 32 = σ 32 - 1) → (33 ≤ aa.toInt) → ((33 + (2 * ((σ 32) - 1))).toInt - aa.toInt).toNat < fu → L_X10_takeOut_P_17 fu σ kk aa σ1 = Z → VV G (AA G) p l e { frames := 0, cells := 0, slots := 0, locals := 0 } s m args below meth c 0 0 (MQ below (QC G (va_up h 37 Z) none) args s 0 0 (AA G)) 5 (va_up h 37 σ1) 17 [(0, .ref (gA G 36 0)), (1, .int 33), (2, .int 32), (3, .int kk), (4, .int aa)] [] := by
  intro fu
  induction fu with
  | zero =>
    intro aa σ1 h32 ha hm
    exact absurd hm (Nat.not_lt_zero _)
  | succ fu ih =>
    intro aa σ1 h32 ha hm hZ
    have hG := X.2.2.2.2.2.1
    have hT_36 : gT G 36 = 9 := hM 36 (by decide) (by decide)
    have hT_37 : gT G 37 = 10 := hM 37 (by decide) (by decide)
    refine q_iload X 4 dX10_takeOut_17 rfl ?_
    refine q_iload_n X 1 dX10_takeOut_19 rfl ?_
    refine q_iconst (v := 2) X dX10_takeOut_20 (by decide) ?_
    refine q_aload_n X 0 dX10_takeOut_21 rfl ?_
    refine q_get (fk := 1) (v := .ref (gA G 37 0)) X cf_X10 (ac_9_0 hT_36) (by decide) fl_X10_7 rfl rfl dX10_takeOut_22 rfl ?_
    refine q_iload_n X 2 dX10_takeOut_25 rfl ?_
    refine q_iald (x := σ1 32) X (ac_10_0 hT_37) (by rw [hT_37]; exact vin_lit (by decide)) dX10_takeOut_26 (va_up_self _ _ _) rfl ?_
    refine q_imul X dX10_takeOut_27 ?_
    refine q_iadd X dX10_takeOut_28 ?_
    refine q_icmp_ge (tgt := 54) X dX10_takeOut_29 (by decide) (fun c2 => ?_) (fun c2 => ?_)
    · skip
      have E : Z = σ1 := by exact hZ.symm.trans ((if_pos c2).trans rfl)
      exact q_vret X hret dX10_takeOut_54 rfl (by rw [E])
    · skip
      refine q_aload_n X 0 dX10_takeOut_32 rfl ?_
      refine q_get (fk := 1) (v := .ref (gA G 37 0)) X cf_X10 (ac_9_0 hT_36) (by decide) fl_X10_7 rfl rfl dX10_takeOut_33 rfl ?_
      refine q_iload X 4 dX10_takeOut_36 rfl ?_
      refine q_aload_n X 0 dX10_takeOut_38 rfl ?_
      refine q_get (fk := 1) (v := .ref (gA G 37 0)) X cf_X10 (ac_9_0 hT_36) (by decide) fl_X10_7 rfl rfl dX10_takeOut_39 rfl ?_
      refine q_iload X 4 dX10_takeOut_42 rfl ?_
      refine q_iconst (v := 2) X dX10_takeOut_44 (by decide) ?_
      refine q_iadd X dX10_takeOut_45 ?_
      refine q_iald (x := σ1 (Int32.toNatClampNeg (aa + 2))) X (ac_10_0 hT_37) (by rw [hT_37]; exact (out_ix (li := 33) ⟨by decide, by decide⟩ hs h32 c2 ha rfl).2) dX10_takeOut_46 (va_up_self _ _ _) (by rw [Nat.zero_add, Nat.one_mul]) ?_
      obtain ⟨r3, e_r3⟩ : ∃ z : Nat → Int32, z = va_up σ1 (Int32.toNatClampNeg aa) (σ1 (Int32.toNatClampNeg (aa + 2))) := ⟨_, rfl⟩
      refine q_iast (h2 := va_up h 37 r3) X (ac_10_0 hT_37) (by rw [hT_37]; exact (out_ix (li := 33) ⟨by decide, by decide⟩ hs h32 c2 ha rfl).1) dX10_takeOut_47 (va_up_self _ _ _) (by rw [Nat.zero_add, Nat.one_mul, e_r3, va_up_up]) ?_
      refine q_iinc (v := aa + 1) (lv' := [(4, .int (aa + 1)), (0, .ref (gA G 36 0)), (1, .int 33), (2, .int 32), (3, .int kk)]) X 4 dX10_takeOut_48 rfl rfl (by decide) rfl ?_
      refine q_goto (tgt := 17) X dX10_takeOut_51 (by decide) ?_
      refine q_sub (lv2 := [(0, .ref (gA G 36 0)), (1, .int 33), (2, .int 32), (3, .int kk), (4, .int (aa + 1))]) [1, 2, 3, 4, 0] rfl ?_
      have E : L_X10_takeOut_P_17 fu σ kk (aa + 1) r3 = Z := Eq.trans (Eq.symm (by subst e_r3; exact (if_neg c2).trans rfl)) hZ
      exact ih (aa + 1) r3 (by subst e_r3; rw [va_up_ne _ _ (by have := clN (x := aa) (by omega); omega)]; exact h32) (by subst e_r3; have e : (aa + 1).toInt = aa.toInt + 1 := out_e (li := 33) ⟨by decide, by decide⟩ hs h32 c2 ha rfl; omega) (by subst e_r3; exact ms_up (by rw [← h32]; exact c2) hm) E
set_option maxRecDepth 100000 in
set_option maxHeartbeats 4000000 in
theorem c_X10_takeOut_P {G : Geo} {l : Launch} (hG : GOK G) {h : Hp} {σ : Nat → Int32} (kk : Int32) (hM : MT G) (hr_37 : h 37 = σ) (hs : 1 ≤ (σ 32).toInt ∧ (σ 32).toInt ≤ 8) (hk0 : 0 ≤ kk.toInt ∧ kk.toInt ≤ 8) : CM G l yX10_takeOut cX10_takeOut 5 none 0 0 [.ref (gA G 36 0), .int 33, .int 32, .int kk] h (va_up h 37 (S_X10_takeOut_P σ kk)) none := by
  obtain ⟨Z, hZ⟩ : ∃ Z, S_X10_takeOut_P σ kk = Z := ⟨_, rfl⟩
  rw [hZ]
  refine q_enter hG mf_X10_takeOut (Nat.le_of_ble_eq_true rfl) ?_
  intro p e s m below meth c X hret
  have hT_36 : gT G 36 = 9 := hM 36 (by decide) (by decide)
  have hT_37 : gT G 37 = 10 := hM 37 (by decide) (by decide)
  refine q_lv (lv2 := [(0, .ref (gA G 36 0)), (1, .int 33), (2, .int 32), (3, .int kk)]) rfl ?_
  refine q_aload_n X 0 dX10_takeOut_0 rfl ?_
  refine q_get (fk := 1) (v := .ref (gA G 37 0)) X cf_X10 (ac_9_0 hT_36) (by decide) fl_X10_7 rfl rfl dX10_takeOut_1 rfl ?_
  refine q_iload_n X 2 dX10_takeOut_4 rfl ?_
  refine q_dup2 X dX10_takeOut_5 rfl rfl ?_
  refine q_iald (x := σ 32) X (ac_10_0 hT_37) (by rw [hT_37]; exact vin_lit (by decide)) dX10_takeOut_6 (hr_37) rfl ?_
  refine q_iconst (v := 1) X dX10_takeOut_7 (by decide) ?_
  refine q_isub X dX10_takeOut_8 ?_
  obtain ⟨r1, e_r1⟩ : ∃ z : Nat → Int32, z = va_up σ 32 ((σ 32) - 1) := ⟨_, rfl⟩
  refine q_iast (h2 := va_up h 37 r1) X (ac_10_0 hT_37) (by rw [hT_37]; exact vin_lit (by decide)) dX10_takeOut_9 (hr_37) (by rw [show 0 + 1 * Int32.toNatClampNeg 32 = 32 from rfl, e_r1]) ?_
  refine q_iload_n X 1 dX10_takeOut_10 rfl ?_
  refine q_iconst (v := 2) X dX10_takeOut_11 (by decide) ?_
  refine q_iload_n X 3 dX10_takeOut_12 rfl ?_
  refine q_imul X dX10_takeOut_13 ?_
  refine q_iadd X dX10_takeOut_14 ?_
  refine q_istore (lv' := [(4, .int (33 + (2 * kk))), (0, .ref (gA G 36 0)), (1, .int 33), (2, .int 32), (3, .int kk)]) X dX10_takeOut_15 (by decide) rfl ?_
  refine q_sub (lv2 := [(0, .ref (gA G 36 0)), (1, .int 33), (2, .int 32), (3, .int kk), (4, .int (33 + (2 * kk)))]) [1, 2, 3, 4, 0] rfl ?_
  have E : L_X10_takeOut_P_17 ((((33 : Int32) + (2 * ((σ 32) - 1))).toInt - (33 + (2 * kk)).toInt).toNat + 1) σ kk (33 + (2 * kk)) r1 = Z := Eq.trans (Eq.symm (by subst e_r1; exact rfl)) hZ
  exact w_X10_takeOut_P_17 X hret hM hr_37 hs hk0 Z ((((33 : Int32) + (2 * ((σ 32) - 1))).toInt - (33 + (2 * kk)).toInt).toNat + 1) (33 + (2 * kk)) r1 (by subst e_r1; rfl) (by subst e_r1; have := (e33 (li := 33) ⟨by decide, by decide⟩ hk0).1; have := hk0.1; have : (33 : Int32).toInt = 33 := rfl; omega) (by subst e_r1; exact Nat.lt_succ_self _) E
def L_X10_takeOut_R_17 (fu : Nat) (σ : Nat → Int32) (kk : Int32) (aa : Int32) (σ1 : Nat → Int32) : (Nat → Int32) := match fu with
  | 0 => (fun _ => 0)
  | fu + 1 => if (50 + (2 * (σ1 49))) ≤ aa then (σ1) else (let r3 : Nat → Int32 := va_up σ1 (Int32.toNatClampNeg aa) (σ1 (Int32.toNatClampNeg (aa + 2))); L_X10_takeOut_R_17 fu σ kk (aa + 1) r3)
def S_X10_takeOut_R (σ : Nat → Int32) (kk : Int32) : (Nat → Int32) := let r1 : Nat → Int32 := va_up σ 49 ((σ 49) - 1); L_X10_takeOut_R_17 ((((50 : Int32) + (2 * ((σ 49) - 1))).toInt - (50 + (2 * kk)).toInt).toNat + 1) σ kk (50 + (2 * kk)) r1
set_option maxRecDepth 100000 in
set_option maxHeartbeats 4000000 in
theorem w_X10_takeOut_R_17 {G : Geo} {p : Program} {l : Launch} {e : Env} {s : State} {m : MethodId} {args : Array Value} {below : List Frame} {meth : Method} {c : Code} {h : Hp} {σ : Nat → Int32} {kk : Int32} (X : CX G (AA G) p s m meth c RX10 cX10_takeOut 5) (hret : meth.sig.returnType = none) (hM : MT G) (hr_37 : h 37 = σ) (hs : 1 ≤ (σ 49).toInt ∧ (σ 49).toInt ≤ 8) (hk0 : 0 ≤ kk.toInt ∧ kk.toInt ≤ 8) (Z : (Nat → Int32)) : ∀ (fu : Nat) (aa : Int32) (σ1 : Nat → Int32), (σ1 49 = σ 49 - 1) → (50 ≤ aa.toInt) → ((50 + (2 * ((σ 49) - 1))).toInt - aa.toInt).toNat < fu → L_X10_takeOut_R_17 fu σ kk aa σ1 = Z → VV G (AA G) p l e { frames := 0, cells := 0, slots := 0, locals := 0 } s m args below meth c 0 0 (MQ below (QC G (va_up h 37 Z) none) args s 0 0 (AA G)) 5 (va_up h 37 σ1) 17 [(0, .ref (gA G 36 0)), (1, .int 50), (2, .int 49), (3, .int kk), (4, .int aa)] [] := by
  intro fu
  induction fu with
  | zero =>
    intro aa σ1 h32 ha hm
    exact absurd hm (Nat.not_lt_zero _)
  | succ fu ih =>
    intro aa σ1 h32 ha hm hZ
    have hG := X.2.2.2.2.2.1
    have hT_36 : gT G 36 = 9 := hM 36 (by decide) (by decide)
    have hT_37 : gT G 37 = 10 := hM 37 (by decide) (by decide)
    refine q_iload X 4 dX10_takeOut_17 rfl ?_
    refine q_iload_n X 1 dX10_takeOut_19 rfl ?_
    refine q_iconst (v := 2) X dX10_takeOut_20 (by decide) ?_
    refine q_aload_n X 0 dX10_takeOut_21 rfl ?_
    refine q_get (fk := 1) (v := .ref (gA G 37 0)) X cf_X10 (ac_9_0 hT_36) (by decide) fl_X10_7 rfl rfl dX10_takeOut_22 rfl ?_
    refine q_iload_n X 2 dX10_takeOut_25 rfl ?_
    refine q_iald (x := σ1 49) X (ac_10_0 hT_37) (by rw [hT_37]; exact vin_lit (by decide)) dX10_takeOut_26 (va_up_self _ _ _) rfl ?_
    refine q_imul X dX10_takeOut_27 ?_
    refine q_iadd X dX10_takeOut_28 ?_
    refine q_icmp_ge (tgt := 54) X dX10_takeOut_29 (by decide) (fun c2 => ?_) (fun c2 => ?_)
    · skip
      have E : Z = σ1 := by exact hZ.symm.trans ((if_pos c2).trans rfl)
      exact q_vret X hret dX10_takeOut_54 rfl (by rw [E])
    · skip
      refine q_aload_n X 0 dX10_takeOut_32 rfl ?_
      refine q_get (fk := 1) (v := .ref (gA G 37 0)) X cf_X10 (ac_9_0 hT_36) (by decide) fl_X10_7 rfl rfl dX10_takeOut_33 rfl ?_
      refine q_iload X 4 dX10_takeOut_36 rfl ?_
      refine q_aload_n X 0 dX10_takeOut_38 rfl ?_
      refine q_get (fk := 1) (v := .ref (gA G 37 0)) X cf_X10 (ac_9_0 hT_36) (by decide) fl_X10_7 rfl rfl dX10_takeOut_39 rfl ?_
      refine q_iload X 4 dX10_takeOut_42 rfl ?_
      refine q_iconst (v := 2) X dX10_takeOut_44 (by decide) ?_
      refine q_iadd X dX10_takeOut_45 ?_
      refine q_iald (x := σ1 (Int32.toNatClampNeg (aa + 2))) X (ac_10_0 hT_37) (by rw [hT_37]; exact (out_ix (li := 50) ⟨by decide, by decide⟩ hs h32 c2 ha rfl).2) dX10_takeOut_46 (va_up_self _ _ _) (by rw [Nat.zero_add, Nat.one_mul]) ?_
      obtain ⟨r3, e_r3⟩ : ∃ z : Nat → Int32, z = va_up σ1 (Int32.toNatClampNeg aa) (σ1 (Int32.toNatClampNeg (aa + 2))) := ⟨_, rfl⟩
      refine q_iast (h2 := va_up h 37 r3) X (ac_10_0 hT_37) (by rw [hT_37]; exact (out_ix (li := 50) ⟨by decide, by decide⟩ hs h32 c2 ha rfl).1) dX10_takeOut_47 (va_up_self _ _ _) (by rw [Nat.zero_add, Nat.one_mul, e_r3, va_up_up]) ?_
      refine q_iinc (v := aa + 1) (lv' := [(4, .int (aa + 1)), (0, .ref (gA G 36 0)), (1, .int 50), (2, .int 49), (3, .int kk)]) X 4 dX10_takeOut_48 rfl rfl (by decide) rfl ?_
      refine q_goto (tgt := 17) X dX10_takeOut_51 (by decide) ?_
      refine q_sub (lv2 := [(0, .ref (gA G 36 0)), (1, .int 50), (2, .int 49), (3, .int kk), (4, .int (aa + 1))]) [1, 2, 3, 4, 0] rfl ?_
      have E : L_X10_takeOut_R_17 fu σ kk (aa + 1) r3 = Z := Eq.trans (Eq.symm (by subst e_r3; exact (if_neg c2).trans rfl)) hZ
      exact ih (aa + 1) r3 (by subst e_r3; rw [va_up_ne _ _ (by have := clN (x := aa) (by omega); omega)]; exact h32) (by subst e_r3; have e : (aa + 1).toInt = aa.toInt + 1 := out_e (li := 50) ⟨by decide, by decide⟩ hs h32 c2 ha rfl; omega) (by subst e_r3; exact ms_up (by rw [← h32]; exact c2) hm) E
set_option maxRecDepth 100000 in
set_option maxHeartbeats 4000000 in
theorem c_X10_takeOut_R {G : Geo} {l : Launch} (hG : GOK G) {h : Hp} {σ : Nat → Int32} (kk : Int32) (hM : MT G) (hr_37 : h 37 = σ) (hs : 1 ≤ (σ 49).toInt ∧ (σ 49).toInt ≤ 8) (hk0 : 0 ≤ kk.toInt ∧ kk.toInt ≤ 8) : CM G l yX10_takeOut cX10_takeOut 5 none 0 0 [.ref (gA G 36 0), .int 50, .int 49, .int kk] h (va_up h 37 (S_X10_takeOut_R σ kk)) none := by
  obtain ⟨Z, hZ⟩ : ∃ Z, S_X10_takeOut_R σ kk = Z := ⟨_, rfl⟩
  rw [hZ]
  refine q_enter hG mf_X10_takeOut (Nat.le_of_ble_eq_true rfl) ?_
  intro p e s m below meth c X hret
  have hT_36 : gT G 36 = 9 := hM 36 (by decide) (by decide)
  have hT_37 : gT G 37 = 10 := hM 37 (by decide) (by decide)
  refine q_lv (lv2 := [(0, .ref (gA G 36 0)), (1, .int 50), (2, .int 49), (3, .int kk)]) rfl ?_
  refine q_aload_n X 0 dX10_takeOut_0 rfl ?_
  refine q_get (fk := 1) (v := .ref (gA G 37 0)) X cf_X10 (ac_9_0 hT_36) (by decide) fl_X10_7 rfl rfl dX10_takeOut_1 rfl ?_
  refine q_iload_n X 2 dX10_takeOut_4 rfl ?_
  refine q_dup2 X dX10_takeOut_5 rfl rfl ?_
  refine q_iald (x := σ 49) X (ac_10_0 hT_37) (by rw [hT_37]; exact vin_lit (by decide)) dX10_takeOut_6 (hr_37) rfl ?_
  refine q_iconst (v := 1) X dX10_takeOut_7 (by decide) ?_
  refine q_isub X dX10_takeOut_8 ?_
  obtain ⟨r1, e_r1⟩ : ∃ z : Nat → Int32, z = va_up σ 49 ((σ 49) - 1) := ⟨_, rfl⟩
  refine q_iast (h2 := va_up h 37 r1) X (ac_10_0 hT_37) (by rw [hT_37]; exact vin_lit (by decide)) dX10_takeOut_9 (hr_37) (by rw [show 0 + 1 * Int32.toNatClampNeg 49 = 49 from rfl, e_r1]) ?_
  refine q_iload_n X 1 dX10_takeOut_10 rfl ?_
  refine q_iconst (v := 2) X dX10_takeOut_11 (by decide) ?_
  refine q_iload_n X 3 dX10_takeOut_12 rfl ?_
  refine q_imul X dX10_takeOut_13 ?_
  refine q_iadd X dX10_takeOut_14 ?_
  refine q_istore (lv' := [(4, .int (50 + (2 * kk))), (0, .ref (gA G 36 0)), (1, .int 50), (2, .int 49), (3, .int kk)]) X dX10_takeOut_15 (by decide) rfl ?_
  refine q_sub (lv2 := [(0, .ref (gA G 36 0)), (1, .int 50), (2, .int 49), (3, .int kk), (4, .int (50 + (2 * kk)))]) [1, 2, 3, 4, 0] rfl ?_
  have E : L_X10_takeOut_R_17 ((((50 : Int32) + (2 * ((σ 49) - 1))).toInt - (50 + (2 * kk)).toInt).toNat + 1) σ kk (50 + (2 * kk)) r1 = Z := Eq.trans (Eq.symm (by subst e_r1; exact rfl)) hZ
  exact w_X10_takeOut_R_17 X hret hM hr_37 hs hk0 Z ((((50 : Int32) + (2 * ((σ 49) - 1))).toInt - (50 + (2 * kk)).toInt).toNat + 1) (50 + (2 * kk)) r1 (by subst e_r1; rfl) (by subst e_r1; have := (e33 (li := 50) ⟨by decide, by decide⟩ hk0).1; have := hk0.1; have : (50 : Int32).toInt = 50 := rfl; omega) (by subst e_r1; exact Nat.lt_succ_self _) E
def S_X10_targetAt (σ : Nat → Int32) (ti : Int32) : Int32 := if (σ 32) = 0 then ((-100009)) else (if (S_X10_isAt σ 33 (σ 32) (S_X10_place σ 33 (σ 32) ti) ti) = 0 then (if (S_X10_place σ 33 (σ 32) ti) = 0 then (σ (Int32.toNatClampNeg ((33 + (2 * (S_X10_place σ 33 (σ 32) ti))) + 1))) else (if (S_X10_place σ 33 (σ 32) ti) = (σ 32) then (σ (Int32.toNatClampNeg (((33 + (2 * (S_X10_place σ 33 (σ 32) ti))) - 2) + 1))) else ((σ (Int32.toNatClampNeg (((33 + (2 * (S_X10_place σ 33 (σ 32) ti))) - 2) + 1))) + (S_X10_down (((σ (Int32.toNatClampNeg (((33 + (2 * (S_X10_place σ 33 (σ 32) ti))) - 2) + 3))) - (σ (Int32.toNatClampNeg (((33 + (2 * (S_X10_place σ 33 (σ 32) ti))) - 2) + 1)))) * (ti - (σ (Int32.toNatClampNeg ((33 + (2 * (S_X10_place σ 33 (σ 32) ti))) - 2))))) ((σ (Int32.toNatClampNeg (((33 + (2 * (S_X10_place σ 33 (σ 32) ti))) - 2) + 2))) - (σ (Int32.toNatClampNeg ((33 + (2 * (S_X10_place σ 33 (σ 32) ti))) - 2)))))))) else (σ (Int32.toNatClampNeg ((33 + (2 * (S_X10_place σ 33 (σ 32) ti))) + 1))))
set_option maxRecDepth 100000 in
set_option maxHeartbeats 4000000 in
theorem c_X10_targetAt {G : Geo} {l : Launch} (hG : GOK G) {h : Hp} {σ : Nat → Int32} (ti : Int32) (hM : MT G) (hr_37 : h 37 = σ) (hI : MI σ) : CM G l yX10_targetAt cX10_targetAt 5 (some .int) 1 24 [.ref (gA G 36 0), .int ti] h h (some (.int (S_X10_targetAt σ ti))) := by
  obtain ⟨Z, hZ⟩ : ∃ Z, S_X10_targetAt σ ti = Z := ⟨_, rfl⟩
  rw [hZ]
  refine q_enter hG mf_X10_targetAt (Nat.le_of_ble_eq_true rfl) ?_
  intro p e s m below meth c X hret
  have hT_36 : gT G 36 = 9 := hM 36 (by decide) (by decide)
  have hT_37 : gT G 37 = 10 := hM 37 (by decide) (by decide)
  refine q_lv (lv2 := [(0, .ref (gA G 36 0)), (1, .int ti)]) rfl ?_
  refine q_aload_n X 0 dX10_targetAt_0 rfl ?_
  refine q_get (fk := 1) (v := .ref (gA G 37 0)) X cf_X10 (ac_9_0 hT_36) (by decide) fl_X10_7 rfl rfl dX10_targetAt_1 rfl ?_
  refine q_bipush (v := 32) X dX10_targetAt_4 (by decide) ?_
  refine q_iald (x := σ 32) X (ac_10_0 hT_37) (by rw [hT_37]; exact vin_lit (by decide)) dX10_targetAt_6 (hr_37) rfl ?_
  refine q_istore_n (lv' := [(2, .int (σ 32)), (0, .ref (gA G 36 0)), (1, .int ti)]) X dX10_targetAt_7 (by decide) rfl ?_
  refine q_iload_n X 0 dX10_targetAt_8 rfl ?_
  refine q_if_ne (tgt := 15) X dX10_targetAt_9 (by decide) (fun c1 => ?_) (fun c1 => ?_)
  · skip
    refine q_aload_n X 1 dX10_targetAt_15 rfl ?_
    refine q_bipush (v := 33) X dX10_targetAt_16 (by decide) ?_
    refine q_iload_n X 0 dX10_targetAt_18 rfl ?_
    refine q_iload_n X 2 dX10_targetAt_19 rfl ?_
    refine q_callV (h1 := _) (rest := []) (As := [.int 33, .int (σ 32), .int ti]) X (c_X10_place (l := l) hG (σ := σ)  33 (σ 32) ti hM (hr_37) ⟨by decide, by decide⟩ hI.1.1.2) mf_X10_place mv_X10_place cf_X10 rfl (ac_9_0 hT_36) lk_X10_48 rfl ⟨by decide, by decide⟩ ⟨Nat.le_refl _, Nat.le_refl _⟩ rfl (Nat.le_of_ble_eq_true rfl) dX10_targetAt_20 (st2 := [.int (S_X10_place σ 33 (σ 32) ti)]) rfl ?_
    refine q_istore_n (lv' := [(3, .int (S_X10_place σ 33 (σ 32) ti)), (2, .int (σ 32)), (0, .ref (gA G 36 0)), (1, .int ti)]) X dX10_targetAt_23 (by decide) rfl ?_
    refine q_aload_n X 2 dX10_targetAt_24 rfl ?_
    refine q_bipush (v := 33) X dX10_targetAt_25 (by decide) ?_
    refine q_iload_n X 1 dX10_targetAt_27 rfl ?_
    refine q_iload_n X 0 dX10_targetAt_28 rfl ?_
    refine q_iload_n X 3 dX10_targetAt_29 rfl ?_
    refine q_callV (h1 := _) (rest := []) (As := [.int 33, .int (σ 32), .int (S_X10_place σ 33 (σ 32) ti), .int ti]) X (c_X10_isAt (l := l) hG (σ := σ)  33 (σ 32) (S_X10_place σ 33 (σ 32) ti) ti hM (hr_37) ⟨by decide, by decide⟩ hI.1.1.2 (place_bd hI.1.1.1).1) mf_X10_isAt mv_X10_isAt cf_X10 rfl (ac_9_0 hT_36) lk_X10_52 rfl ⟨by decide, by decide⟩ ⟨Nat.le_refl _, Nat.le_refl _⟩ rfl (Nat.le_of_ble_eq_true rfl) dX10_targetAt_30 (st2 := [.int (S_X10_isAt σ 33 (σ 32) (S_X10_place σ 33 (σ 32) ti) ti)]) rfl ?_
    refine q_if_ne (tgt := 40) X dX10_targetAt_33 (by decide) (fun c2 => ?_) (fun c2 => ?_)
    · skip
      refine q_aload_n X 2 dX10_targetAt_40 rfl ?_
      refine q_get (fk := 1) (v := .ref (gA G 37 0)) X cf_X10 (ac_9_0 hT_36) (by decide) fl_X10_7 rfl rfl dX10_targetAt_41 rfl ?_
      refine q_bipush (v := 33) X dX10_targetAt_44 (by decide) ?_
      refine q_iconst (v := 2) X dX10_targetAt_46 (by decide) ?_
      refine q_iload_n X 0 dX10_targetAt_47 rfl ?_
      refine q_imul X dX10_targetAt_48 ?_
      refine q_iadd X dX10_targetAt_49 ?_
      refine q_iconst (v := 1) X dX10_targetAt_50 (by decide) ?_
      refine q_iadd X dX10_targetAt_51 ?_
      refine q_iald (x := σ (Int32.toNatClampNeg ((33 + (2 * (S_X10_place σ 33 (σ 32) ti))) + 1))) X (ac_10_0 hT_37) (by rw [hT_37]; exact (ix_33 ⟨by decide, by decide⟩ (pbd8 hI.1.1)).2) dX10_targetAt_52 (hr_37) (by rw [Nat.zero_add, Nat.one_mul]) ?_
      have E : Z = σ (Int32.toNatClampNeg ((33 + (2 * (S_X10_place σ 33 (σ 32) ti))) + 1)) := by exact hZ.symm.trans ((if_neg c1).trans ((if_neg c2).trans rfl))
      exact q_iret X hret dX10_targetAt_53 (by rw [E]) rfl
    · skip
      refine q_iload_n X 0 dX10_targetAt_36 rfl ?_
      refine q_if_ne (tgt := 54) X dX10_targetAt_37 (by decide) (fun c3 => ?_) (fun c3 => ?_)
      · skip
        refine q_bipush (v := 33) X dX10_targetAt_54 (by decide) ?_
        refine q_iconst (v := 2) X dX10_targetAt_56 (by decide) ?_
        refine q_iload_n X 0 dX10_targetAt_57 rfl ?_
        refine q_imul X dX10_targetAt_58 ?_
        refine q_iadd X dX10_targetAt_59 ?_
        refine q_iconst (v := 2) X dX10_targetAt_60 (by decide) ?_
        refine q_isub X dX10_targetAt_61 ?_
        refine q_istore (lv' := [(4, .int ((33 + (2 * (S_X10_place σ 33 (σ 32) ti))) - 2)), (3, .int (S_X10_place σ 33 (σ 32) ti)), (2, .int (σ 32)), (0, .ref (gA G 36 0)), (1, .int ti)]) X dX10_targetAt_62 (by decide) rfl ?_
        refine q_iload_n X 1 dX10_targetAt_64 rfl ?_
        refine q_iload_n X 2 dX10_targetAt_65 rfl ?_
        refine q_icmp_ne (tgt := 79) X dX10_targetAt_66 (by decide) (fun c4 => ?_) (fun c4 => ?_)
        · skip
          refine q_aload_n X 3 dX10_targetAt_79 rfl ?_
          refine q_get (fk := 1) (v := .ref (gA G 37 0)) X cf_X10 (ac_9_0 hT_36) (by decide) fl_X10_7 rfl rfl dX10_targetAt_80 rfl ?_
          refine q_iload X 0 dX10_targetAt_83 rfl ?_
          refine q_iconst (v := 1) X dX10_targetAt_85 (by decide) ?_
          refine q_iadd X dX10_targetAt_86 ?_
          refine q_iald (x := σ (Int32.toNatClampNeg (((33 + (2 * (S_X10_place σ 33 (σ 32) ti))) - 2) + 1))) X (ac_10_0 hT_37) (by rw [hT_37]; exact (ix_last ⟨by decide, by decide⟩ (p1 (pbd8 hI.1.1) c3)).2.1) dX10_targetAt_87 (hr_37) (by rw [Nat.zero_add, Nat.one_mul]) ?_
          refine q_aload_n X 3 dX10_targetAt_88 rfl ?_
          refine q_get (fk := 1) (v := .ref (gA G 37 0)) X cf_X10 (ac_9_0 hT_36) (by decide) fl_X10_7 rfl rfl dX10_targetAt_89 rfl ?_
          refine q_iload X 0 dX10_targetAt_92 rfl ?_
          refine q_iconst (v := 3) X dX10_targetAt_94 (by decide) ?_
          refine q_iadd X dX10_targetAt_95 ?_
          refine q_iald (x := σ (Int32.toNatClampNeg (((33 + (2 * (S_X10_place σ 33 (σ 32) ti))) - 2) + 3))) X (ac_10_0 hT_37) (by rw [hT_37]; exact (ix_last ⟨by decide, by decide⟩ (p1 (pbd8 hI.1.1) c3)).2.2.2) dX10_targetAt_96 (hr_37) (by rw [Nat.zero_add, Nat.one_mul]) ?_
          refine q_aload_n X 3 dX10_targetAt_97 rfl ?_
          refine q_get (fk := 1) (v := .ref (gA G 37 0)) X cf_X10 (ac_9_0 hT_36) (by decide) fl_X10_7 rfl rfl dX10_targetAt_98 rfl ?_
          refine q_iload X 0 dX10_targetAt_101 rfl ?_
          refine q_iconst (v := 1) X dX10_targetAt_103 (by decide) ?_
          refine q_iadd X dX10_targetAt_104 ?_
          refine q_iald (x := σ (Int32.toNatClampNeg (((33 + (2 * (S_X10_place σ 33 (σ 32) ti))) - 2) + 1))) X (ac_10_0 hT_37) (by rw [hT_37]; exact (ix_last ⟨by decide, by decide⟩ (p1 (pbd8 hI.1.1) c3)).2.1) dX10_targetAt_105 (hr_37) (by rw [Nat.zero_add, Nat.one_mul]) ?_
          refine q_isub X dX10_targetAt_106 ?_
          refine q_iload_n X 4 dX10_targetAt_107 rfl ?_
          refine q_aload_n X 3 dX10_targetAt_108 rfl ?_
          refine q_get (fk := 1) (v := .ref (gA G 37 0)) X cf_X10 (ac_9_0 hT_36) (by decide) fl_X10_7 rfl rfl dX10_targetAt_109 rfl ?_
          refine q_iload X 0 dX10_targetAt_112 rfl ?_
          refine q_iald (x := σ (Int32.toNatClampNeg ((33 + (2 * (S_X10_place σ 33 (σ 32) ti))) - 2))) X (ac_10_0 hT_37) (by rw [hT_37]; exact (ix_last ⟨by decide, by decide⟩ (p1 (pbd8 hI.1.1) c3)).1) dX10_targetAt_114 (hr_37) (by rw [Nat.zero_add, Nat.one_mul]) ?_
          refine q_isub X dX10_targetAt_115 ?_
          refine q_imul X dX10_targetAt_116 ?_
          refine q_aload_n X 3 dX10_targetAt_117 rfl ?_
          refine q_get (fk := 1) (v := .ref (gA G 37 0)) X cf_X10 (ac_9_0 hT_36) (by decide) fl_X10_7 rfl rfl dX10_targetAt_118 rfl ?_
          refine q_iload X 0 dX10_targetAt_121 rfl ?_
          refine q_iconst (v := 2) X dX10_targetAt_123 (by decide) ?_
          refine q_iadd X dX10_targetAt_124 ?_
          refine q_iald (x := σ (Int32.toNatClampNeg (((33 + (2 * (S_X10_place σ 33 (σ 32) ti))) - 2) + 2))) X (ac_10_0 hT_37) (by rw [hT_37]; exact (ix_last ⟨by decide, by decide⟩ (p1 (pbd8 hI.1.1) c3)).2.2.1) dX10_targetAt_125 (hr_37) (by rw [Nat.zero_add, Nat.one_mul]) ?_
          refine q_aload_n X 3 dX10_targetAt_126 rfl ?_
          refine q_get (fk := 1) (v := .ref (gA G 37 0)) X cf_X10 (ac_9_0 hT_36) (by decide) fl_X10_7 rfl rfl dX10_targetAt_127 rfl ?_
          refine q_iload X 0 dX10_targetAt_130 rfl ?_
          refine q_iald (x := σ (Int32.toNatClampNeg ((33 + (2 * (S_X10_place σ 33 (σ 32) ti))) - 2))) X (ac_10_0 hT_37) (by rw [hT_37]; exact (ix_last ⟨by decide, by decide⟩ (p1 (pbd8 hI.1.1) c3)).1) dX10_targetAt_132 (hr_37) (by rw [Nat.zero_add, Nat.one_mul]) ?_
          refine q_isub X dX10_targetAt_133 ?_
          refine q_callS (h1 := _) (rest := [.int (σ (Int32.toNatClampNeg (((33 + (2 * (S_X10_place σ 33 (σ 32) ti))) - 2) + 1)))]) (As := [.int (((σ (Int32.toNatClampNeg (((33 + (2 * (S_X10_place σ 33 (σ 32) ti))) - 2) + 3))) - (σ (Int32.toNatClampNeg (((33 + (2 * (S_X10_place σ 33 (σ 32) ti))) - 2) + 1)))) * (ti - (σ (Int32.toNatClampNeg ((33 + (2 * (S_X10_place σ 33 (σ 32) ti))) - 2))))), .int ((σ (Int32.toNatClampNeg (((33 + (2 * (S_X10_place σ 33 (σ 32) ti))) - 2) + 2))) - (σ (Int32.toNatClampNeg ((33 + (2 * (S_X10_place σ 33 (σ 32) ti))) - 2))))]) X (c_X10_down (l := l) hG   (((σ (Int32.toNatClampNeg (((33 + (2 * (S_X10_place σ 33 (σ 32) ti))) - 2) + 3))) - (σ (Int32.toNatClampNeg (((33 + (2 * (S_X10_place σ 33 (σ 32) ti))) - 2) + 1)))) * (ti - (σ (Int32.toNatClampNeg ((33 + (2 * (S_X10_place σ 33 (σ 32) ti))) - 2))))) ((σ (Int32.toNatClampNeg (((33 + (2 * (S_X10_place σ 33 (σ 32) ti))) - 2) + 2))) - (σ (Int32.toNatClampNeg ((33 + (2 * (S_X10_place σ 33 (σ 32) ti))) - 2)))) (dv_last hI (place_bd hI.1.1.1) c3 c4)) mf_X10_down ms_X10_down lk_X10_103 rfl ⟨by decide, by decide⟩ ⟨Nat.le_refl _, Nat.le_refl _⟩ rfl (Nat.le_of_ble_eq_true rfl) dX10_targetAt_134 (st2 := [.int (S_X10_down (((σ (Int32.toNatClampNeg (((33 + (2 * (S_X10_place σ 33 (σ 32) ti))) - 2) + 3))) - (σ (Int32.toNatClampNeg (((33 + (2 * (S_X10_place σ 33 (σ 32) ti))) - 2) + 1)))) * (ti - (σ (Int32.toNatClampNeg ((33 + (2 * (S_X10_place σ 33 (σ 32) ti))) - 2))))) ((σ (Int32.toNatClampNeg (((33 + (2 * (S_X10_place σ 33 (σ 32) ti))) - 2) + 2))) - (σ (Int32.toNatClampNeg ((33 + (2 * (S_X10_place σ 33 (σ 32) ti))) - 2))))), .int (σ (Int32.toNatClampNeg (((33 + (2 * (S_X10_place σ 33 (σ 32) ti))) - 2) + 1)))]) rfl ?_
          refine q_iadd X dX10_targetAt_137 ?_
          have E : Z = (σ (Int32.toNatClampNeg (((33 + (2 * (S_X10_place σ 33 (σ 32) ti))) - 2) + 1))) + (S_X10_down (((σ (Int32.toNatClampNeg (((33 + (2 * (S_X10_place σ 33 (σ 32) ti))) - 2) + 3))) - (σ (Int32.toNatClampNeg (((33 + (2 * (S_X10_place σ 33 (σ 32) ti))) - 2) + 1)))) * (ti - (σ (Int32.toNatClampNeg ((33 + (2 * (S_X10_place σ 33 (σ 32) ti))) - 2))))) ((σ (Int32.toNatClampNeg (((33 + (2 * (S_X10_place σ 33 (σ 32) ti))) - 2) + 2))) - (σ (Int32.toNatClampNeg ((33 + (2 * (S_X10_place σ 33 (σ 32) ti))) - 2))))) := by exact hZ.symm.trans ((if_neg c1).trans ((if_pos c2).trans ((if_neg c3).trans ((if_neg c4).trans rfl))))
          exact q_iret X hret dX10_targetAt_138 (by rw [E]) rfl
        · skip
          refine q_aload_n X 3 dX10_targetAt_69 rfl ?_
          refine q_get (fk := 1) (v := .ref (gA G 37 0)) X cf_X10 (ac_9_0 hT_36) (by decide) fl_X10_7 rfl rfl dX10_targetAt_70 rfl ?_
          refine q_iload X 0 dX10_targetAt_73 rfl ?_
          refine q_iconst (v := 1) X dX10_targetAt_75 (by decide) ?_
          refine q_iadd X dX10_targetAt_76 ?_
          refine q_iald (x := σ (Int32.toNatClampNeg (((33 + (2 * (S_X10_place σ 33 (σ 32) ti))) - 2) + 1))) X (ac_10_0 hT_37) (by rw [hT_37]; exact (ix_last ⟨by decide, by decide⟩ (p1 (pbd8 hI.1.1) c3)).2.1) dX10_targetAt_77 (hr_37) (by rw [Nat.zero_add, Nat.one_mul]) ?_
          have E : Z = σ (Int32.toNatClampNeg (((33 + (2 * (S_X10_place σ 33 (σ 32) ti))) - 2) + 1)) := by exact hZ.symm.trans ((if_neg c1).trans ((if_pos c2).trans ((if_neg c3).trans ((if_pos c4).trans rfl))))
          exact q_iret X hret dX10_targetAt_78 (by rw [E]) rfl
      · skip
        refine q_aload_n X 2 dX10_targetAt_40 rfl ?_
        refine q_get (fk := 1) (v := .ref (gA G 37 0)) X cf_X10 (ac_9_0 hT_36) (by decide) fl_X10_7 rfl rfl dX10_targetAt_41 rfl ?_
        refine q_bipush (v := 33) X dX10_targetAt_44 (by decide) ?_
        refine q_iconst (v := 2) X dX10_targetAt_46 (by decide) ?_
        refine q_iload_n X 0 dX10_targetAt_47 rfl ?_
        refine q_imul X dX10_targetAt_48 ?_
        refine q_iadd X dX10_targetAt_49 ?_
        refine q_iconst (v := 1) X dX10_targetAt_50 (by decide) ?_
        refine q_iadd X dX10_targetAt_51 ?_
        refine q_iald (x := σ (Int32.toNatClampNeg ((33 + (2 * (S_X10_place σ 33 (σ 32) ti))) + 1))) X (ac_10_0 hT_37) (by rw [hT_37]; exact (ix_33 ⟨by decide, by decide⟩ (pbd8 hI.1.1)).2) dX10_targetAt_52 (hr_37) (by rw [Nat.zero_add, Nat.one_mul]) ?_
        have E : Z = σ (Int32.toNatClampNeg ((33 + (2 * (S_X10_place σ 33 (σ 32) ti))) + 1)) := by exact hZ.symm.trans ((if_neg c1).trans ((if_pos c2).trans ((if_pos c3).trans rfl)))
        exact q_iret X hret dX10_targetAt_53 (by rw [E]) rfl
  · skip
    refine q_ldc X kc_X10_81 dX10_targetAt_12 ?_
    have E : Z = (-100009) := by exact hZ.symm.trans ((if_pos c1).trans rfl)
    exact q_iret X hret dX10_targetAt_14 (by rw [E]) rfl
def S_X10_rateAt (σ : Nat → Int32) (te : Int32) : Int32 := if (S_X10_place σ 50 (σ 49) (te + 1)) = 0 then (0) else (σ (Int32.toNatClampNeg ((50 + (2 * (S_X10_place σ 50 (σ 49) (te + 1)))) - 1)))
set_option maxRecDepth 100000 in
set_option maxHeartbeats 4000000 in
theorem c_X10_rateAt {G : Geo} {l : Launch} (hG : GOK G) {h : Hp} {σ : Nat → Int32} (te : Int32) (hM : MT G) (hr_37 : h 37 = σ) (hI : MI σ) : CM G l yX10_rateAt cX10_rateAt 3 (some .int) 1 24 [.ref (gA G 36 0), .int te] h h (some (.int (S_X10_rateAt σ te))) := by
  obtain ⟨Z, hZ⟩ : ∃ Z, S_X10_rateAt σ te = Z := ⟨_, rfl⟩
  rw [hZ]
  refine q_enter hG mf_X10_rateAt (Nat.le_of_ble_eq_true rfl) ?_
  intro p e s m below meth c X hret
  have hT_36 : gT G 36 = 9 := hM 36 (by decide) (by decide)
  have hT_37 : gT G 37 = 10 := hM 37 (by decide) (by decide)
  refine q_lv (lv2 := [(0, .ref (gA G 36 0)), (1, .int te)]) rfl ?_
  refine q_aload_n X 0 dX10_rateAt_0 rfl ?_
  refine q_bipush (v := 50) X dX10_rateAt_1 (by decide) ?_
  refine q_aload_n X 0 dX10_rateAt_3 rfl ?_
  refine q_get (fk := 1) (v := .ref (gA G 37 0)) X cf_X10 (ac_9_0 hT_36) (by decide) fl_X10_7 rfl rfl dX10_rateAt_4 rfl ?_
  refine q_bipush (v := 49) X dX10_rateAt_7 (by decide) ?_
  refine q_iald (x := σ 49) X (ac_10_0 hT_37) (by rw [hT_37]; exact vin_lit (by decide)) dX10_rateAt_9 (hr_37) rfl ?_
  refine q_iload_n X 1 dX10_rateAt_10 rfl ?_
  refine q_iconst (v := 1) X dX10_rateAt_11 (by decide) ?_
  refine q_iadd X dX10_rateAt_12 ?_
  refine q_callV (h1 := _) (rest := []) (As := [.int 50, .int (σ 49), .int (te + 1)]) X (c_X10_place (l := l) hG (σ := σ)  50 (σ 49) (te + 1) hM (hr_37) ⟨by decide, by decide⟩ (Int.le_trans hI.2.1.2 (by decide))) mf_X10_place mv_X10_place cf_X10 rfl (ac_9_0 hT_36) lk_X10_48 rfl ⟨by decide, by decide⟩ ⟨Nat.le_refl _, Nat.le_refl _⟩ rfl (Nat.le_of_ble_eq_true rfl) dX10_rateAt_13 (st2 := [.int (S_X10_place σ 50 (σ 49) (te + 1))]) rfl ?_
  refine q_istore_n (lv' := [(2, .int (S_X10_place σ 50 (σ 49) (te + 1))), (0, .ref (gA G 36 0)), (1, .int te)]) X dX10_rateAt_16 (by decide) rfl ?_
  refine q_iload_n X 0 dX10_rateAt_17 rfl ?_
  suffices hJ3 : ∀ (m2 : Int32), m2 = (if (S_X10_place σ 50 (σ 49) (te + 1)) = 0 then (0) else (σ (Int32.toNatClampNeg ((50 + (2 * (S_X10_place σ 50 (σ 49) (te + 1)))) - 1)))) → VV G (AA G) p l e { frames := 1, cells := 0, slots := 0, locals := 24 } s m ([.ref (gA G 36 0), .int te] : List Value).toArray below meth c 0 0 (MQ below (QC G h (some (.int Z))) ([.ref (gA G 36 0), .int te] : List Value).toArray s 0 0 (AA G)) 3 h 38 [(2, .int (S_X10_place σ 50 (σ 49) (te + 1))), (0, .ref (gA G 36 0)), (1, .int te)] [.int m2] by
    refine q_if_ne (tgt := 25) X dX10_rateAt_18 (by decide) (fun c1 => ?_) (fun c1 => ?_)
    · skip
      refine q_aload_n X 1 dX10_rateAt_25 rfl ?_
      refine q_get (fk := 1) (v := .ref (gA G 37 0)) X cf_X10 (ac_9_0 hT_36) (by decide) fl_X10_7 rfl rfl dX10_rateAt_26 rfl ?_
      refine q_bipush (v := 50) X dX10_rateAt_29 (by decide) ?_
      refine q_iconst (v := 2) X dX10_rateAt_31 (by decide) ?_
      refine q_iload_n X 0 dX10_rateAt_32 rfl ?_
      refine q_imul X dX10_rateAt_33 ?_
      refine q_iadd X dX10_rateAt_34 ?_
      refine q_iconst (v := 1) X dX10_rateAt_35 (by decide) ?_
      refine q_isub X dX10_rateAt_36 ?_
      refine q_iald (x := σ (Int32.toNatClampNeg ((50 + (2 * (S_X10_place σ 50 (σ 49) (te + 1)))) - 1))) X (ac_10_0 hT_37) (by rw [hT_37]; exact ix_r (pbd8 ⟨hI.2.1.1, Int.le_trans hI.2.1.2 (by decide)⟩)) dX10_rateAt_37 (hr_37) (by rw [Nat.zero_add, Nat.one_mul]) ?_
      refine q_sub (lv2 := [(2, .int (S_X10_place σ 50 (σ 49) (te + 1))), (0, .ref (gA G 36 0)), (1, .int te)]) [0, 1, 2] rfl ?_
      exact hJ3 (σ (Int32.toNatClampNeg ((50 + (2 * (S_X10_place σ 50 (σ 49) (te + 1)))) - 1))) (by exact ((if_neg c1).trans rfl).symm)
    · skip
      refine q_iconst (v := 0) X dX10_rateAt_21 (by decide) ?_
      refine q_goto (tgt := 38) X dX10_rateAt_22 (by decide) ?_
      refine q_sub (lv2 := [(2, .int (S_X10_place σ 50 (σ 49) (te + 1))), (0, .ref (gA G 36 0)), (1, .int te)]) [0, 1, 2] rfl ?_
      exact hJ3 0 (by exact ((if_pos c1).trans rfl).symm)
  intro m2 e_m2
  have E : Z = m2 := by subst e_m2; exact hZ.symm.trans (rfl)
  exact q_iret X hret dX10_rateAt_38 (by rw [E]) rfl
