/-! small facts on ints, for the bounds -/
theorem ta {a b : Int32} (h1 : -2147483648 ≤ a.toInt + b.toInt) (h2 : a.toInt + b.toInt < 2147483648) : (a + b).toInt = a.toInt + b.toInt := by
  rw [Int32.toInt_add]
  exact Int.bmod_eq_of_le (by omega) (by omega)
theorem tsu {a b : Int32} (h1 : -2147483648 ≤ a.toInt - b.toInt) (h2 : a.toInt - b.toInt < 2147483648) : (a - b).toInt = a.toInt - b.toInt := by
  rw [Int32.toInt_sub]
  exact Int.bmod_eq_of_le (by omega) (by omega)
theorem tml {a b : Int32} (h1 : -2147483648 ≤ a.toInt * b.toInt) (h2 : a.toInt * b.toInt < 2147483648) : (a * b).toInt = a.toInt * b.toInt := by
  rw [Int32.toInt_mul]
  exact Int.bmod_eq_of_le (by omega) (by omega)
theorem nle {a b : Int32} (h : ¬ a ≤ b) : b.toInt < a.toInt := Int32.lt_iff_toInt_lt.mp (Int32.not_le.mp h)
theorem nlt {a b : Int32} (h : ¬ a < b) : b.toInt ≤ a.toInt := Int32.le_iff_toInt_le.mp (Int32.not_lt.mp h)
theorem vin_i {i : Int32} {n : Nat} (h0 : 0 ≤ i.toInt) (h1 : i.toInt < n) : vp_in i n := by
  refine vin_of (fun z => ?_) ?_
  · rw [Int32.lt_iff_toInt_lt] at z
    have : (0 : Int32).toInt = 0 := rfl
    omega
  · have := clN h0
    omega
theorem stp {b k : Int32} (h : ¬ b ≤ k) (h0 : 0 ≤ k.toInt) : 0 ≤ (k + 1).toInt := by
  have h1 := nle h
  have h2 := Int32.toInt_lt b
  rw [ta (by show -2147483648 ≤ k.toInt + 1; omega) (by show k.toInt + 1 < 2147483648; omega)]
  show 0 ≤ k.toInt + 1
  omega
theorem t2m {k : Int32} (h0 : 0 ≤ k.toInt) (h1 : k.toInt ≤ 1000) : (2 * k).toInt = 2 * k.toInt := by
  rw [tml (by show -2147483648 ≤ 2 * k.toInt; omega) (by show 2 * k.toInt < 2147483648; omega)]
  rfl
theorem tl2 {li k : Int32} (hl : 0 ≤ li.toInt ∧ li.toInt ≤ 200) (h0 : 0 ≤ k.toInt) (h1 : k.toInt ≤ 1000) : (li + 2 * k).toInt = li.toInt + 2 * k.toInt := by
  rw [ta (by rw [t2m h0 h1]; omega) (by rw [t2m h0 h1]; omega), t2m h0 h1]
theorem ix_p {li ma k : Int32} (hl : 0 ≤ li.toInt ∧ li.toInt ≤ 50) (hm : ma.toInt ≤ 8) (h0 : 0 ≤ k.toInt) (h1 : ¬ ma ≤ k) : vp_in (li + 2 * k) 112 := by
  have := nle h1
  have e := tl2 (li := li) (k := k) ⟨hl.1, by omega⟩ h0 (by omega)
  exact vin_i (by omega) (by omega)
def L_X10_hold_2 (fu : Nat) (σ : Nat → Int32) (α : Nat → Int32) (k : Int32) (α1 : Nat → Int32) : (Nat → Int32) := match fu with
  | 0 => (fun _ => 0)
  | fu + 1 => if 112 ≤ k then (α1) else (let r2 : Nat → Int32 := va_up α1 (Int32.toNatClampNeg k) (σ (Int32.toNatClampNeg k)); L_X10_hold_2 fu σ α (k + 1) r2)
def S_X10_hold (σ : Nat → Int32) (α : Nat → Int32) : (Nat → Int32) := L_X10_hold_2 113 σ α 0 α
set_option maxRecDepth 100000 in
set_option maxHeartbeats 4000000 in
theorem w_X10_hold_2 {G : Geo} {p : Program} {l : Launch} {e : Env} {s : State} {m : MethodId} {args : Array Value} {below : List Frame} {meth : Method} {c : Code} {h : Hp} {σ : Nat → Int32} {α : Nat → Int32} (X : CX G (AA G) p s m meth c RX10 cX10_hold 2) (hret : meth.sig.returnType = none) (hM : MT G) (hr_37 : h 37 = σ) (hr_38 : h 38 = α) (Z : (Nat → Int32)) : ∀ (fu : Nat) (k : Int32) (α1 : Nat → Int32), (0 ≤ k.toInt) → ((112 : Int32).toInt - k.toInt).toNat < fu → L_X10_hold_2 fu σ α k α1 = Z → VV G (AA G) p l e { frames := 0, cells := 0, slots := 0, locals := 0 } s m args below meth c 0 0 (MQ below (QC G (va_up h 38 Z) none) args s 0 0 (AA G)) 2 (va_up h 38 α1) 2 [(0, .ref (gA G 36 0)), (1, .int k)] [] := by
  intro fu
  induction fu with
  | zero =>
    intro k α1 hk hm
    exact absurd hm (Nat.not_lt_zero _)
  | succ fu ih =>
    intro k α1 hk hm hZ
    have hG := X.2.2.2.2.2.1
    have hT_36 : gT G 36 = 9 := hM 36 (by decide) (by decide)
    have hT_37 : gT G 37 = 10 := hM 37 (by decide) (by decide)
    have hT_38 : gT G 38 = 10 := hM 38 (by decide) (by decide)
    refine q_iload_n X 1 dX10_hold_2 rfl ?_
    refine q_bipush (v := 112) X dX10_hold_3 (by decide) ?_
    refine q_icmp_ge (tgt := 26) X dX10_hold_5 (by decide) (fun c1 => ?_) (fun c1 => ?_)
    · skip
      have E : Z = α1 := by exact hZ.symm.trans ((if_pos c1).trans rfl)
      exact q_vret X hret dX10_hold_26 rfl (by rw [E])
    · skip
      refine q_aload_n X 0 dX10_hold_8 rfl ?_
      refine q_get (fk := 2) (v := .ref (gA G 38 0)) X cf_X10 (ac_9_0 hT_36) (by decide) fl_X10_13 rfl rfl dX10_hold_9 rfl ?_
      refine q_iload_n X 1 dX10_hold_12 rfl ?_
      refine q_aload_n X 0 dX10_hold_13 rfl ?_
      refine q_get (fk := 1) (v := .ref (gA G 37 0)) X cf_X10 (ac_9_0 hT_36) (by decide) fl_X10_7 rfl rfl dX10_hold_14 rfl ?_
      refine q_iload_n X 1 dX10_hold_17 rfl ?_
      refine q_iald (x := σ (Int32.toNatClampNeg k)) X (ac_10_0 hT_37) (by rw [hT_37]; exact vin_i hk (nle c1)) dX10_hold_18 ((va_up_ne _ _ (by decide)).trans (hr_37)) (by rw [Nat.zero_add, Nat.one_mul]) ?_
      obtain ⟨r2, e_r2⟩ : ∃ z : Nat → Int32, z = va_up α1 (Int32.toNatClampNeg k) (σ (Int32.toNatClampNeg k)) := ⟨_, rfl⟩
      refine q_iast (h2 := va_up h 38 r2) X (ac_10_0 hT_38) (by rw [hT_38]; exact vin_i hk (nle c1)) dX10_hold_19 (va_up_self _ _ _) (by rw [Nat.zero_add, Nat.one_mul, e_r2, va_up_up]) ?_
      refine q_iinc (v := k + 1) (lv' := [(1, .int (k + 1)), (0, .ref (gA G 36 0))]) X 1 dX10_hold_20 rfl rfl (by decide) rfl ?_
      refine q_goto (tgt := 2) X dX10_hold_23 (by decide) ?_
      refine q_sub (lv2 := [(0, .ref (gA G 36 0)), (1, .int (k + 1))]) [1, 0] rfl ?_
      have E : L_X10_hold_2 fu σ α (k + 1) r2 = Z := Eq.trans (Eq.symm (by subst e_r2; exact (if_neg c1).trans rfl)) hZ
      exact ih (k + 1) r2 (by subst e_r2; exact stp c1 hk) (by subst e_r2; exact ms_up c1 hm) E
set_option maxRecDepth 100000 in
set_option maxHeartbeats 4000000 in
theorem c_X10_hold {G : Geo} {l : Launch} (hG : GOK G) {h : Hp} {σ : Nat → Int32} {α : Nat → Int32} (hM : MT G) (hr_37 : h 37 = σ) (hr_38 : h 38 = α) : CM G l yX10_hold cX10_hold 2 none 0 0 [.ref (gA G 36 0)] h (va_up h 38 (S_X10_hold σ α)) none := by
  obtain ⟨Z, hZ⟩ : ∃ Z, S_X10_hold σ α = Z := ⟨_, rfl⟩
  rw [hZ]
  refine q_enter hG mf_X10_hold (Nat.le_of_ble_eq_true rfl) ?_
  intro p e s m below meth c X hret
  have hT_36 : gT G 36 = 9 := hM 36 (by decide) (by decide)
  have hT_37 : gT G 37 = 10 := hM 37 (by decide) (by decide)
  have hT_38 : gT G 38 = 10 := hM 38 (by decide) (by decide)
  refine q_lv (lv2 := [(0, .ref (gA G 36 0))]) rfl ?_
  refine q_iconst (v := 0) X dX10_hold_0 (by decide) ?_
  refine q_istore_n (lv' := [(1, .int 0), (0, .ref (gA G 36 0))]) X dX10_hold_1 (by decide) rfl ?_
  refine q_sub (lv2 := [(0, .ref (gA G 36 0)), (1, .int 0)]) [1, 0] rfl ?_
  refine q_eq (h2 := va_up h 38 α) (va_up_id2 (hr_38)).symm rfl ?_
  have E : L_X10_hold_2 113 σ α 0 α = Z := Eq.trans (Eq.symm (by exact rfl)) hZ
  exact w_X10_hold_2 X hret hM hr_37 hr_38 Z 113 0 α (by decide) (by decide) E
def L_X10_release_2 (fu : Nat) (σ : Nat → Int32) (α : Nat → Int32) (k : Int32) (σ1 : Nat → Int32) : (Nat → Int32) := match fu with
  | 0 => (fun _ => 0)
  | fu + 1 => if 112 ≤ k then (σ1) else (let r2 : Nat → Int32 := va_up σ1 (Int32.toNatClampNeg k) (α (Int32.toNatClampNeg k)); L_X10_release_2 fu σ α (k + 1) r2)
def S_X10_release (σ : Nat → Int32) (α : Nat → Int32) : (Nat → Int32) := L_X10_release_2 113 σ α 0 σ
set_option maxRecDepth 100000 in
set_option maxHeartbeats 4000000 in
theorem w_X10_release_2 {G : Geo} {p : Program} {l : Launch} {e : Env} {s : State} {m : MethodId} {args : Array Value} {below : List Frame} {meth : Method} {c : Code} {h : Hp} {σ : Nat → Int32} {α : Nat → Int32} (X : CX G (AA G) p s m meth c RX10 cX10_release 2) (hret : meth.sig.returnType = none) (hM : MT G) (hr_37 : h 37 = σ) (hr_38 : h 38 = α) (Z : (Nat → Int32)) : ∀ (fu : Nat) (k : Int32) (σ1 : Nat → Int32), (0 ≤ k.toInt) → ((112 : Int32).toInt - k.toInt).toNat < fu → L_X10_release_2 fu σ α k σ1 = Z → VV G (AA G) p l e { frames := 0, cells := 0, slots := 0, locals := 0 } s m args below meth c 0 0 (MQ below (QC G (va_up h 37 Z) none) args s 0 0 (AA G)) 2 (va_up h 37 σ1) 2 [(0, .ref (gA G 36 0)), (1, .int k)] [] := by
  intro fu
  induction fu with
  | zero =>
    intro k σ1 hk hm
    exact absurd hm (Nat.not_lt_zero _)
  | succ fu ih =>
    intro k σ1 hk hm hZ
    have hG := X.2.2.2.2.2.1
    have hT_36 : gT G 36 = 9 := hM 36 (by decide) (by decide)
    have hT_37 : gT G 37 = 10 := hM 37 (by decide) (by decide)
    have hT_38 : gT G 38 = 10 := hM 38 (by decide) (by decide)
    refine q_iload_n X 1 dX10_release_2 rfl ?_
    refine q_bipush (v := 112) X dX10_release_3 (by decide) ?_
    refine q_icmp_ge (tgt := 26) X dX10_release_5 (by decide) (fun c1 => ?_) (fun c1 => ?_)
    · skip
      have E : Z = σ1 := by exact hZ.symm.trans ((if_pos c1).trans rfl)
      exact q_vret X hret dX10_release_26 rfl (by rw [E])
    · skip
      refine q_aload_n X 0 dX10_release_8 rfl ?_
      refine q_get (fk := 1) (v := .ref (gA G 37 0)) X cf_X10 (ac_9_0 hT_36) (by decide) fl_X10_7 rfl rfl dX10_release_9 rfl ?_
      refine q_iload_n X 1 dX10_release_12 rfl ?_
      refine q_aload_n X 0 dX10_release_13 rfl ?_
      refine q_get (fk := 2) (v := .ref (gA G 38 0)) X cf_X10 (ac_9_0 hT_36) (by decide) fl_X10_13 rfl rfl dX10_release_14 rfl ?_
      refine q_iload_n X 1 dX10_release_17 rfl ?_
      refine q_iald (x := α (Int32.toNatClampNeg k)) X (ac_10_0 hT_38) (by rw [hT_38]; exact vin_i hk (nle c1)) dX10_release_18 ((va_up_ne _ _ (by decide)).trans (hr_38)) (by rw [Nat.zero_add, Nat.one_mul]) ?_
      obtain ⟨r2, e_r2⟩ : ∃ z : Nat → Int32, z = va_up σ1 (Int32.toNatClampNeg k) (α (Int32.toNatClampNeg k)) := ⟨_, rfl⟩
      refine q_iast (h2 := va_up h 37 r2) X (ac_10_0 hT_37) (by rw [hT_37]; exact vin_i hk (nle c1)) dX10_release_19 (va_up_self _ _ _) (by rw [Nat.zero_add, Nat.one_mul, e_r2, va_up_up]) ?_
      refine q_iinc (v := k + 1) (lv' := [(1, .int (k + 1)), (0, .ref (gA G 36 0))]) X 1 dX10_release_20 rfl rfl (by decide) rfl ?_
      refine q_goto (tgt := 2) X dX10_release_23 (by decide) ?_
      refine q_sub (lv2 := [(0, .ref (gA G 36 0)), (1, .int (k + 1))]) [1, 0] rfl ?_
      have E : L_X10_release_2 fu σ α (k + 1) r2 = Z := Eq.trans (Eq.symm (by subst e_r2; exact (if_neg c1).trans rfl)) hZ
      exact ih (k + 1) r2 (by subst e_r2; exact stp c1 hk) (by subst e_r2; exact ms_up c1 hm) E
set_option maxRecDepth 100000 in
set_option maxHeartbeats 4000000 in
theorem c_X10_release {G : Geo} {l : Launch} (hG : GOK G) {h : Hp} {σ : Nat → Int32} {α : Nat → Int32} (hM : MT G) (hr_37 : h 37 = σ) (hr_38 : h 38 = α) : CM G l yX10_release cX10_release 2 none 0 0 [.ref (gA G 36 0)] h (va_up h 37 (S_X10_release σ α)) none := by
  obtain ⟨Z, hZ⟩ : ∃ Z, S_X10_release σ α = Z := ⟨_, rfl⟩
  rw [hZ]
  refine q_enter hG mf_X10_release (Nat.le_of_ble_eq_true rfl) ?_
  intro p e s m below meth c X hret
  have hT_36 : gT G 36 = 9 := hM 36 (by decide) (by decide)
  have hT_37 : gT G 37 = 10 := hM 37 (by decide) (by decide)
  have hT_38 : gT G 38 = 10 := hM 38 (by decide) (by decide)
  refine q_lv (lv2 := [(0, .ref (gA G 36 0))]) rfl ?_
  refine q_iconst (v := 0) X dX10_release_0 (by decide) ?_
  refine q_istore_n (lv' := [(1, .int 0), (0, .ref (gA G 36 0))]) X dX10_release_1 (by decide) rfl ?_
  refine q_sub (lv2 := [(0, .ref (gA G 36 0)), (1, .int 0)]) [1, 0] rfl ?_
  refine q_eq (h2 := va_up h 37 σ) (va_up_id2 (hr_37)).symm rfl ?_
  have E : L_X10_release_2 113 σ α 0 σ = Z := Eq.trans (Eq.symm (by exact rfl)) hZ
  exact w_X10_release_2 X hret hM hr_37 hr_38 Z 113 0 σ (by decide) (by decide) E
theorem ix_448 {k : Int32} (h0 : 0 ≤ k.toInt) (h1 : ¬ 448 ≤ k) : vp_in (k + 112) 560 ∧ vp_in k 560 := by
  have h2 : k.toInt < 448 := nle h1
  have e : (k + 112).toInt = k.toInt + 112 := ta (b := 112) (by show -2147483648 ≤ k.toInt + 112; omega) (by show k.toInt + 112 < 2147483648; omega)
  exact ⟨vin_i (by omega) (by omega), vin_i (by omega) (by omega)⟩
theorem t112 {m k : Int32} (hm : 0 ≤ m.toInt ∧ m.toInt ≤ 4) (h0 : 0 ≤ k.toInt) (h1 : k.toInt < 112) : (112 * m + k).toInt = 112 * m.toInt + k.toInt := by
  have e : (112 * m).toInt = 112 * m.toInt := tml (a := 112) (by show -2147483648 ≤ 112 * m.toInt; omega) (by show 112 * m.toInt < 2147483648; omega)
  rw [ta (by omega) (by omega), e]
theorem ix_sv {m k : Int32} (hm : 0 ≤ m.toInt ∧ m.toInt ≤ 4) (h0 : 0 ≤ k.toInt) (h1 : ¬ 112 ≤ k) : vp_in (112 * m + k) 560 := by
  have h2 : k.toInt < 112 := nle h1
  have e := t112 hm h0 h2
  exact vin_i (by omega) (by omega)
theorem sm_dn {m : Int32} (h : 0 ≤ m.toInt ∧ m.toInt ≤ 5) (h5 : m = 5) : 0 ≤ (m - 1).toInt ∧ (m - 1).toInt ≤ 4 := by subst h5; decide
theorem sm_st {m : Int32} (h : 0 ≤ m.toInt ∧ m.toInt ≤ 5) (h5 : ¬ m = 5) : 0 ≤ m.toInt ∧ m.toInt ≤ 4 := by
  refine ⟨h.1, ?_⟩
  have : m.toInt ≠ 5 := fun e => h5 (Int32.toInt_inj.mp e)
  omega
def L_X10_act_50 (fu : Nat) (κ : Nat → Int32) (σ : Nat → Int32) (β : Nat → Int32) (k : Int32) (κ1 : Nat → Int32) (β1 : Nat → Int32) : (Nat → Int32) × (Nat → Int32) := match fu with
  | 0 => ((fun _ => 0), (fun _ => 0))
  | fu + 1 => if 112 ≤ k then (let r3 : Nat → Int32 := va_up κ1 1 ((κ1 1) + 1); (r3, β1)) else (let r4 : Nat → Int32 := va_up β1 (Int32.toNatClampNeg ((112 * (κ1 1)) + k)) (σ (Int32.toNatClampNeg k)); L_X10_act_50 fu κ σ β (k + 1) κ1 r4)
def L_X10_act_10 (fu : Nat) (κ : Nat → Int32) (σ : Nat → Int32) (β : Nat → Int32) (k : Int32) (β1 : Nat → Int32) : (Nat → Int32) × (Nat → Int32) := match fu with
  | 0 => ((fun _ => 0), (fun _ => 0))
  | fu + 1 => if 448 ≤ k then (let r6 : Nat → Int32 := va_up κ 1 ((κ 1) - 1); L_X10_act_50 113 κ σ β 0 r6 β1) else (let r7 : Nat → Int32 := va_up β1 (Int32.toNatClampNeg k) (β1 (Int32.toNatClampNeg (k + 112))); L_X10_act_10 fu κ σ β (k + 1) r7)
def S_X10_act (κ : Nat → Int32) (σ : Nat → Int32) (β : Nat → Int32) : (Nat → Int32) × (Nat → Int32) := if (κ 1) = 5 then (L_X10_act_10 449 κ σ β 0 β) else (L_X10_act_50 113 κ σ β 0 κ β)
set_option maxRecDepth 100000 in
set_option maxHeartbeats 4000000 in
theorem w_X10_act_50 {G : Geo} {p : Program} {l : Launch} {e : Env} {s : State} {m : MethodId} {args : Array Value} {below : List Frame} {meth : Method} {c : Code} {h : Hp} {κ : Nat → Int32} {σ : Nat → Int32} {β : Nat → Int32} (X : CX G (AA G) p s m meth c RX10 cX10_act 2) (hret : meth.sig.returnType = none) (hM : MT G) (hr_36 : h 36 = κ) (hr_37 : h 37 = σ) (hr_39 : h 39 = β) (hsm : 0 ≤ (κ 1).toInt ∧ (κ 1).toInt ≤ 5) (Z : (Nat → Int32) × (Nat → Int32)) : ∀ (fu : Nat) (k : Int32) (κ1 : Nat → Int32) (β1 : Nat → Int32), (0 ≤ k.toInt) → (0 ≤ (κ1 1).toInt ∧ (κ1 1).toInt ≤ 4) → ((112 : Int32).toInt - k.toInt).toNat < fu → L_X10_act_50 fu κ σ β k κ1 β1 = Z → VV G (AA G) p l e { frames := 0, cells := 0, slots := 0, locals := 0 } s m args below meth c 0 0 (MQ below (QC G (va_up (va_up h 36 Z.1) 39 Z.2) none) args s 0 0 (AA G)) 2 (va_up (va_up h 36 κ1) 39 β1) 50 [(0, .ref (gA G 36 0)), (1, .int k)] [] := by
  intro fu
  induction fu with
  | zero =>
    intro k κ1 β1 hk hs1 hm
    exact absurd hm (Nat.not_lt_zero _)
  | succ fu ih =>
    intro k κ1 β1 hk hs1 hm hZ
    have hG := X.2.2.2.2.2.1
    have hT_36 : gT G 36 = 9 := hM 36 (by decide) (by decide)
    have hT_37 : gT G 37 = 10 := hM 37 (by decide) (by decide)
    have hT_39 : gT G 39 = 11 := hM 39 (by decide) (by decide)
    refine q_iload_n X 1 dX10_act_50 rfl ?_
    refine q_bipush (v := 112) X dX10_act_51 (by decide) ?_
    refine q_icmp_ge (tgt := 82) X dX10_act_53 (by decide) (fun c2 => ?_) (fun c2 => ?_)
    · skip
      refine q_aload_n X 0 dX10_act_82 rfl ?_
      refine q_dup X dX10_act_83 rfl ?_
      refine q_geti (fk := 4) (x := κ1 1) X cf_X10 (ac_9_0 hT_36) (by decide) fl_X10_33 rfl rfl dX10_act_84 ((va_up_ne _ _ (by decide)).trans (va_up_self _ _ _)) rfl ?_
      refine q_iconst (v := 1) X dX10_act_87 (by decide) ?_
      refine q_iadd X dX10_act_88 ?_
      obtain ⟨r3, e_r3⟩ : ∃ z : Nat → Int32, z = va_up κ1 1 ((κ1 1) + 1) := ⟨_, rfl⟩
      refine q_put (fk := 4) (h2 := va_up (va_up h 39 β1) 36 r3) X cf_X10 (ac_9_0 hT_36) (by decide) fl_X10_33 rfl rfl (by rw [hT_36]; rfl) rfl rfl rfl dX10_act_89 ((va_up_ne _ _ (by decide)).trans (va_up_self _ _ _)) (by rw [← e_r3]; funext x; simp only [va_up]; (repeat' split) <;> first | rfl | omega) ?_
      have E : Z = (r3, β1) := by subst e_r3; exact hZ.symm.trans ((if_pos c2).trans rfl)
      exact q_vret X hret dX10_act_92 rfl (by rw [E]; (funext x; simp only [va_up]; (repeat' split) <;> first | rfl | omega | (subst_vars; rfl) | (subst_vars; assumption)))
    · skip
      refine q_aload_n X 0 dX10_act_56 rfl ?_
      refine q_get (fk := 3) (v := .ref (gA G 39 0)) X cf_X10 (ac_9_0 hT_36) (by decide) fl_X10_16 rfl rfl dX10_act_57 rfl ?_
      refine q_bipush (v := 112) X dX10_act_60 (by decide) ?_
      refine q_aload_n X 0 dX10_act_62 rfl ?_
      refine q_geti (fk := 4) (x := κ1 1) X cf_X10 (ac_9_0 hT_36) (by decide) fl_X10_33 rfl rfl dX10_act_63 ((va_up_ne _ _ (by decide)).trans (va_up_self _ _ _)) rfl ?_
      refine q_imul X dX10_act_66 ?_
      refine q_iload_n X 1 dX10_act_67 rfl ?_
      refine q_iadd X dX10_act_68 ?_
      refine q_aload_n X 0 dX10_act_69 rfl ?_
      refine q_get (fk := 1) (v := .ref (gA G 37 0)) X cf_X10 (ac_9_0 hT_36) (by decide) fl_X10_7 rfl rfl dX10_act_70 rfl ?_
      refine q_iload_n X 1 dX10_act_73 rfl ?_
      refine q_iald (x := σ (Int32.toNatClampNeg k)) X (ac_10_0 hT_37) (by rw [hT_37]; exact vin_i hk (nle c2)) dX10_act_74 ((va_up_ne _ _ (by decide)).trans ((va_up_ne _ _ (by decide)).trans (hr_37))) (by rw [Nat.zero_add, Nat.one_mul]) ?_
      obtain ⟨r4, e_r4⟩ : ∃ z : Nat → Int32, z = va_up β1 (Int32.toNatClampNeg ((112 * (κ1 1)) + k)) (σ (Int32.toNatClampNeg k)) := ⟨_, rfl⟩
      refine q_iast (h2 := va_up (va_up h 36 κ1) 39 r4) X (ac_11_0 hT_39) (by rw [hT_39]; exact ix_sv hs1 hk c2) dX10_act_75 (va_up_self _ _ _) (by rw [Nat.zero_add, Nat.one_mul, e_r4, va_up_up]) ?_
      refine q_iinc (v := k + 1) (lv' := [(1, .int (k + 1)), (0, .ref (gA G 36 0))]) X 1 dX10_act_76 rfl rfl (by decide) rfl ?_
      refine q_goto (tgt := 50) X dX10_act_79 (by decide) ?_
      refine q_sub (lv2 := [(0, .ref (gA G 36 0)), (1, .int (k + 1))]) [1, 0] rfl ?_
      have E : L_X10_act_50 fu κ σ β (k + 1) κ1 r4 = Z := Eq.trans (Eq.symm (by subst e_r4; exact (if_neg c2).trans rfl)) hZ
      exact ih (k + 1) κ1 r4 (by subst e_r4; exact stp c2 hk) (by subst e_r4; exact hs1) (by subst e_r4; exact ms_up c2 hm) E
set_option maxRecDepth 100000 in
set_option maxHeartbeats 4000000 in
theorem w_X10_act_10 {G : Geo} {p : Program} {l : Launch} {e : Env} {s : State} {m : MethodId} {args : Array Value} {below : List Frame} {meth : Method} {c : Code} {h : Hp} {κ : Nat → Int32} {σ : Nat → Int32} {β : Nat → Int32} (X : CX G (AA G) p s m meth c RX10 cX10_act 2) (hret : meth.sig.returnType = none) (hM : MT G) (hr_36 : h 36 = κ) (hr_37 : h 37 = σ) (hr_39 : h 39 = β) (hsm : 0 ≤ (κ 1).toInt ∧ (κ 1).toInt ≤ 5) (Z : (Nat → Int32) × (Nat → Int32)) : ∀ (fu : Nat) (k : Int32) (β1 : Nat → Int32), (0 ≤ k.toInt) → (κ 1 = 5) → ((448 : Int32).toInt - k.toInt).toNat < fu → L_X10_act_10 fu κ σ β k β1 = Z → VV G (AA G) p l e { frames := 0, cells := 0, slots := 0, locals := 0 } s m args below meth c 0 0 (MQ below (QC G (va_up (va_up h 36 Z.1) 39 Z.2) none) args s 0 0 (AA G)) 2 (va_up h 39 β1) 10 [(0, .ref (gA G 36 0)), (1, .int k)] [] := by
  intro fu
  induction fu with
  | zero =>
    intro k β1 hk h5 hm
    exact absurd hm (Nat.not_lt_zero _)
  | succ fu ih =>
    intro k β1 hk h5 hm hZ
    have hG := X.2.2.2.2.2.1
    have hT_36 : gT G 36 = 9 := hM 36 (by decide) (by decide)
    have hT_37 : gT G 37 = 10 := hM 37 (by decide) (by decide)
    have hT_39 : gT G 39 = 11 := hM 39 (by decide) (by decide)
    refine q_iload_n X 1 dX10_act_10 rfl ?_
    refine q_sipush (v := 448) X dX10_act_11 (by decide) ?_
    refine q_icmp_ge (tgt := 38) X dX10_act_14 (by decide) (fun c5 => ?_) (fun c5 => ?_)
    · skip
      refine q_aload_n X 0 dX10_act_38 rfl ?_
      refine q_dup X dX10_act_39 rfl ?_
      refine q_geti (fk := 4) (x := κ 1) X cf_X10 (ac_9_0 hT_36) (by decide) fl_X10_33 rfl rfl dX10_act_40 ((va_up_ne _ _ (by decide)).trans (hr_36)) rfl ?_
      refine q_iconst (v := 1) X dX10_act_43 (by decide) ?_
      refine q_isub X dX10_act_44 ?_
      obtain ⟨r6, e_r6⟩ : ∃ z : Nat → Int32, z = va_up κ 1 ((κ 1) - 1) := ⟨_, rfl⟩
      refine q_put (fk := 4) (h2 := va_up (va_up h 39 β1) 36 r6) X cf_X10 (ac_9_0 hT_36) (by decide) fl_X10_33 rfl rfl (by rw [hT_36]; rfl) rfl rfl rfl dX10_act_45 ((va_up_ne _ _ (by decide)).trans (hr_36)) (by rw [e_r6]) ?_
      refine q_iconst (v := 0) X dX10_act_48 (by decide) ?_
      refine q_istore_n (lv' := [(1, .int 0), (0, .ref (gA G 36 0))]) X dX10_act_49 (by decide) rfl ?_
      refine q_sub (lv2 := [(0, .ref (gA G 36 0)), (1, .int 0)]) [1, 0] rfl ?_
      refine q_eq (h2 := va_up (va_up h 36 r6) 39 β1) (by funext x; simp only [va_up]; (repeat' split) <;> first | rfl | omega) rfl ?_
      have E : L_X10_act_50 113 κ σ β 0 r6 β1 = Z := Eq.trans (Eq.symm (by subst e_r6; exact (if_pos c5).trans rfl)) hZ
      exact w_X10_act_50 X hret hM hr_36 hr_37 hr_39 hsm Z 113 0 r6 β1 (by subst e_r6; decide) (by subst e_r6; first | exact sm_st hsm (by assumption) | exact sm_dn hsm h5) (by subst e_r6; decide) E
    · skip
      refine q_aload_n X 0 dX10_act_17 rfl ?_
      refine q_get (fk := 3) (v := .ref (gA G 39 0)) X cf_X10 (ac_9_0 hT_36) (by decide) fl_X10_16 rfl rfl dX10_act_18 rfl ?_
      refine q_iload_n X 1 dX10_act_21 rfl ?_
      refine q_aload_n X 0 dX10_act_22 rfl ?_
      refine q_get (fk := 3) (v := .ref (gA G 39 0)) X cf_X10 (ac_9_0 hT_36) (by decide) fl_X10_16 rfl rfl dX10_act_23 rfl ?_
      refine q_iload_n X 1 dX10_act_26 rfl ?_
      refine q_bipush (v := 112) X dX10_act_27 (by decide) ?_
      refine q_iadd X dX10_act_29 ?_
      refine q_iald (x := β1 (Int32.toNatClampNeg (k + 112))) X (ac_11_0 hT_39) (by rw [hT_39]; exact (ix_448 hk c5).1) dX10_act_30 (va_up_self _ _ _) (by rw [Nat.zero_add, Nat.one_mul]) ?_
      obtain ⟨r7, e_r7⟩ : ∃ z : Nat → Int32, z = va_up β1 (Int32.toNatClampNeg k) (β1 (Int32.toNatClampNeg (k + 112))) := ⟨_, rfl⟩
      refine q_iast (h2 := va_up h 39 r7) X (ac_11_0 hT_39) (by rw [hT_39]; exact (ix_448 hk c5).2) dX10_act_31 (va_up_self _ _ _) (by rw [Nat.zero_add, Nat.one_mul, e_r7, va_up_up]) ?_
      refine q_iinc (v := k + 1) (lv' := [(1, .int (k + 1)), (0, .ref (gA G 36 0))]) X 1 dX10_act_32 rfl rfl (by decide) rfl ?_
      refine q_goto (tgt := 10) X dX10_act_35 (by decide) ?_
      refine q_sub (lv2 := [(0, .ref (gA G 36 0)), (1, .int (k + 1))]) [1, 0] rfl ?_
      have E : L_X10_act_10 fu κ σ β (k + 1) r7 = Z := Eq.trans (Eq.symm (by subst e_r7; exact (if_neg c5).trans rfl)) hZ
      exact ih (k + 1) r7 (by subst e_r7; exact stp c5 hk) (by subst e_r7; exact h5) (by subst e_r7; exact ms_up c5 hm) E
set_option maxRecDepth 100000 in
set_option maxHeartbeats 4000000 in
theorem c_X10_act {G : Geo} {l : Launch} (hG : GOK G) {h : Hp} {κ : Nat → Int32} {σ : Nat → Int32} {β : Nat → Int32} (hM : MT G) (hr_36 : h 36 = κ) (hr_37 : h 37 = σ) (hr_39 : h 39 = β) (hsm : 0 ≤ (κ 1).toInt ∧ (κ 1).toInt ≤ 5) : CM G l yX10_act cX10_act 2 none 0 0 [.ref (gA G 36 0)] h (va_up (va_up h 36 ((S_X10_act κ σ β).1)) 39 ((S_X10_act κ σ β).2)) none := by
  obtain ⟨Z, hZ⟩ : ∃ Z, S_X10_act κ σ β = Z := ⟨_, rfl⟩
  rw [hZ]
  refine q_enter hG mf_X10_act (Nat.le_of_ble_eq_true rfl) ?_
  intro p e s m below meth c X hret
  have hT_36 : gT G 36 = 9 := hM 36 (by decide) (by decide)
  have hT_37 : gT G 37 = 10 := hM 37 (by decide) (by decide)
  have hT_39 : gT G 39 = 11 := hM 39 (by decide) (by decide)
  refine q_lv (lv2 := [(0, .ref (gA G 36 0))]) rfl ?_
  refine q_aload_n X 0 dX10_act_0 rfl ?_
  refine q_geti (fk := 4) (x := κ 1) X cf_X10 (ac_9_0 hT_36) (by decide) fl_X10_33 rfl rfl dX10_act_1 (hr_36) rfl ?_
  refine q_iconst (v := 5) X dX10_act_4 (by decide) ?_
  refine q_icmp_ne (tgt := 48) X dX10_act_5 (by decide) (fun c1 => ?_) (fun c1 => ?_)
  · skip
    refine q_iconst (v := 0) X dX10_act_48 (by decide) ?_
    refine q_istore_n (lv' := [(1, .int 0), (0, .ref (gA G 36 0))]) X dX10_act_49 (by decide) rfl ?_
    refine q_sub (lv2 := [(0, .ref (gA G 36 0)), (1, .int 0)]) [1, 0] rfl ?_
    refine q_eq (h2 := va_up h 36 κ) (va_up_id2 (hr_36)).symm rfl ?_
    refine q_eq (h2 := va_up (va_up h 36 κ) 39 β) (va_up_id2 ((va_up_ne _ _ (by decide)).trans (hr_39))).symm rfl ?_
    have E : L_X10_act_50 113 κ σ β 0 κ β = Z := Eq.trans (Eq.symm (by exact (if_neg c1).trans rfl)) hZ
    exact w_X10_act_50 X hret hM hr_36 hr_37 hr_39 hsm Z 113 0 κ β (by decide) (by first | exact sm_st hsm (by assumption) | exact sm_dn hsm h5) (by decide) E
  · skip
    refine q_iconst (v := 0) X dX10_act_8 (by decide) ?_
    refine q_istore_n (lv' := [(1, .int 0), (0, .ref (gA G 36 0))]) X dX10_act_9 (by decide) rfl ?_
    refine q_sub (lv2 := [(0, .ref (gA G 36 0)), (1, .int 0)]) [1, 0] rfl ?_
    refine q_eq (h2 := va_up h 39 β) (va_up_id2 (hr_39)).symm rfl ?_
    have E : L_X10_act_10 449 κ σ β 0 β = Z := Eq.trans (Eq.symm (by exact (if_pos c1).trans rfl)) hZ
    exact w_X10_act_10 X hret hM hr_36 hr_37 hr_39 hsm Z 449 0 β (by decide) (by assumption) (by decide) E
def S_X10_isRoasting (σ : Nat → Int32) : Int32 := if (σ 1) = 1 then (1) else (0)
set_option maxRecDepth 100000 in
set_option maxHeartbeats 4000000 in
theorem c_X10_isRoasting {G : Geo} {l : Launch} (hG : GOK G) {h : Hp} {σ : Nat → Int32} (hM : MT G) (hr_37 : h 37 = σ) : CM G l yX10_isRoasting cX10_isRoasting 1 (some .boolean) 0 0 [.ref (gA G 36 0)] h h (some (.int (S_X10_isRoasting σ))) := by
  obtain ⟨Z, hZ⟩ : ∃ Z, S_X10_isRoasting σ = Z := ⟨_, rfl⟩
  rw [hZ]
  refine q_enter hG mf_X10_isRoasting (Nat.le_of_ble_eq_true rfl) ?_
  intro p e s m below meth c X hret
  have hT_36 : gT G 36 = 9 := hM 36 (by decide) (by decide)
  have hT_37 : gT G 37 = 10 := hM 37 (by decide) (by decide)
  refine q_lv (lv2 := [(0, .ref (gA G 36 0))]) rfl ?_
  refine q_aload_n X 0 dX10_isRoasting_0 rfl ?_
  refine q_get (fk := 1) (v := .ref (gA G 37 0)) X cf_X10 (ac_9_0 hT_36) (by decide) fl_X10_7 rfl rfl dX10_isRoasting_1 rfl ?_
  refine q_iconst (v := 1) X dX10_isRoasting_4 (by decide) ?_
  refine q_iald (x := σ 1) X (ac_10_0 hT_37) (by rw [hT_37]; exact vin_lit (by decide)) dX10_isRoasting_5 (hr_37) rfl ?_
  refine q_iconst (v := 1) X dX10_isRoasting_6 (by decide) ?_
  refine q_icmp_ne (tgt := 14) X dX10_isRoasting_7 (by decide) (fun c1 => ?_) (fun c1 => ?_)
  · skip
    refine q_iconst (v := 0) X dX10_isRoasting_14 (by decide) ?_
    have E : Z = 0 := by exact hZ.symm.trans ((if_neg c1).trans rfl)
    exact q_zret X hret rfl dX10_isRoasting_15 (by rw [E]) rfl
  · skip
    refine q_iconst (v := 1) X dX10_isRoasting_10 (by decide) ?_
    refine q_goto (tgt := 15) X dX10_isRoasting_11 (by decide) ?_
    have E : Z = 1 := by exact hZ.symm.trans ((if_pos c1).trans rfl)
    exact q_zret X hret rfl dX10_isRoasting_15 (by rw [E]) rfl
theorem Z_X10_isRoasting (σ : Nat → Int32) : (S_X10_isRoasting σ) = 0 ∨ (S_X10_isRoasting σ) = 1 := by
  unfold S_X10_isRoasting
  (repeat' split) <;> first | exact Or.inl rfl | exact Or.inr rfl
def S_X10_put (κ : Nat → Int32) (σ : Nat → Int32) (β : Nat → Int32) (wo : Int32) (va : Int32) : Int32 × (Nat → Int32) × (Nat → Int32) × (Nat → Int32) := let r1 : Nat → Int32 := (S_X10_act κ σ β).1; let r2 : Nat → Int32 := (S_X10_act κ σ β).2; let r3 : Nat → Int32 := va_up σ (Int32.toNatClampNeg wo) va; (σ (Int32.toNatClampNeg wo), r1, r3, r2)
set_option maxRecDepth 100000 in
set_option maxHeartbeats 4000000 in
theorem c_X10_put {G : Geo} {l : Launch} (hG : GOK G) {h : Hp} {κ : Nat → Int32} {σ : Nat → Int32} {β : Nat → Int32} (wo : Int32) (va : Int32) (hM : MT G) (hr_36 : h 36 = κ) (hr_37 : h 37 = σ) (hr_39 : h 39 = β) (hsm : 0 ≤ (κ 1).toInt ∧ (κ 1).toInt ≤ 5) (hat : vp_in wo 112) : CM G l yX10_put cX10_put 4 (some .int) 1 21 [.ref (gA G 36 0), .int wo, .int va] h (va_up (va_up (va_up h 36 ((S_X10_put κ σ β wo va).2.1)) 37 ((S_X10_put κ σ β wo va).2.2.1)) 39 ((S_X10_put κ σ β wo va).2.2.2)) (some (.int ((S_X10_put κ σ β wo va).1))) := by
  obtain ⟨Z, hZ⟩ : ∃ Z, S_X10_put κ σ β wo va = Z := ⟨_, rfl⟩
  rw [hZ]
  refine q_enter hG mf_X10_put (Nat.le_of_ble_eq_true rfl) ?_
  intro p e s m below meth c X hret
  have hT_36 : gT G 36 = 9 := hM 36 (by decide) (by decide)
  have hT_37 : gT G 37 = 10 := hM 37 (by decide) (by decide)
  have hT_39 : gT G 39 = 11 := hM 39 (by decide) (by decide)
  refine q_lv (lv2 := [(0, .ref (gA G 36 0)), (1, .int wo), (2, .int va)]) rfl ?_
  refine q_aload_n X 0 dX10_put_0 rfl ?_
  obtain ⟨r1, e_r1⟩ : ∃ z : Nat → Int32, z = (S_X10_act κ σ β).1 := ⟨_, rfl⟩
  obtain ⟨r2, e_r2⟩ : ∃ z : Nat → Int32, z = (S_X10_act κ σ β).2 := ⟨_, rfl⟩
  refine q_callV (h1 := _) (rest := []) (As := []) X (c_X10_act (l := l) hG (κ := κ) (σ := σ) (β := β)   hM (hr_36) (hr_37) (hr_39) hsm) mf_X10_act mv_X10_act cf_X10 rfl (ac_9_0 hT_36) lk_X10_36 rfl ⟨by decide, by decide⟩ ⟨Nat.le_refl _, Nat.le_refl _⟩ rfl (Nat.le_of_ble_eq_true rfl) dX10_put_1 (st2 := []) rfl ?_
  refine q_eq (h2 := va_up (va_up h 36 r1) 39 r2) (by rw [e_r1, e_r2]) rfl ?_
  refine q_aload_n X 0 dX10_put_4 rfl ?_
  refine q_get (fk := 1) (v := .ref (gA G 37 0)) X cf_X10 (ac_9_0 hT_36) (by decide) fl_X10_7 rfl rfl dX10_put_5 rfl ?_
  refine q_iload_n X 1 dX10_put_8 rfl ?_
  refine q_iald (x := σ (Int32.toNatClampNeg wo)) X (ac_10_0 hT_37) (by rw [hT_37]; exact hat) dX10_put_9 ((va_up_ne _ _ (by decide)).trans ((va_up_ne _ _ (by decide)).trans (hr_37))) (by rw [Nat.zero_add, Nat.one_mul]) ?_
  refine q_istore_n (lv' := [(3, .int (σ (Int32.toNatClampNeg wo))), (0, .ref (gA G 36 0)), (1, .int wo), (2, .int va)]) X dX10_put_10 (by decide) rfl ?_
  refine q_aload_n X 1 dX10_put_11 rfl ?_
  refine q_get (fk := 1) (v := .ref (gA G 37 0)) X cf_X10 (ac_9_0 hT_36) (by decide) fl_X10_7 rfl rfl dX10_put_12 rfl ?_
  refine q_iload_n X 2 dX10_put_15 rfl ?_
  refine q_iload_n X 3 dX10_put_16 rfl ?_
  obtain ⟨r3, e_r3⟩ : ∃ z : Nat → Int32, z = va_up σ (Int32.toNatClampNeg wo) va := ⟨_, rfl⟩
  refine q_iast (h2 := va_up (va_up (va_up h 36 r1) 39 r2) 37 r3) X (ac_10_0 hT_37) (by rw [hT_37]; exact hat) dX10_put_17 ((va_up_ne _ _ (by decide)).trans ((va_up_ne _ _ (by decide)).trans (hr_37))) (by rw [Nat.zero_add, Nat.one_mul, e_r3]) ?_
  refine q_iload_n X 0 dX10_put_18 rfl ?_
  have E : Z = (σ (Int32.toNatClampNeg wo), r1, r3, r2) := by subst e_r3; subst e_r2; subst e_r1; exact hZ.symm.trans (rfl)
  exact q_iret X hret dX10_put_19 (by rw [E]) (by rw [E]; (funext x; simp only [va_up]; (repeat' split) <;> first | rfl | omega | (subst_vars; rfl) | (subst_vars; assumption)))
