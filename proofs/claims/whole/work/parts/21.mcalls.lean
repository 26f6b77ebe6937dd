/-- the reference's copies, place by place -/
theorem up_int {k : Int32} {j : Nat} (h0 : 0 ≤ k.toInt) (h1 : k.toInt < 1000) : (k + 1).toInt = k.toInt + 1 ∧ (k.toNatClampNeg : Int) = k.toInt := ⟨ta (b := 1) (by show -2147483648 ≤ k.toInt + 1; omega) (by show k.toInt + 1 < 2147483648; omega), clN h0⟩
theorem L_hold_eq {σ α : Nat → Int32} : ∀ (fu : Nat) (k : Int32) (a : Nat → Int32), 0 ≤ k.toInt → (112 - k.toInt).toNat < fu → ∀ j : Nat, L_X10_hold_2 fu σ α k a j = if k.toInt ≤ j ∧ j < 112 then σ j else a j := by
  intro fu
  induction fu with
  | zero => intro k a _ h; exact absurd h (Nat.not_lt_zero _)
  | succ fu ih =>
    intro k a h0 hm j
    show (if 112 ≤ k then a else L_X10_hold_2 fu σ α (k + 1) (va_up a (Int32.toNatClampNeg k) (σ (Int32.toNatClampNeg k)))) j = _
    by_cases c1 : 112 ≤ k
    · have h1 : (112 : Int) ≤ k.toInt := Int32.le_iff_toInt_le.mp c1
      rw [if_pos c1, if_neg (by omega)]
    · have h1 : k.toInt < 112 := nle c1
      obtain ⟨e1, e2⟩ := up_int (j := 0) h0 (by omega)
      rw [if_neg c1, ih _ _ (by omega) (by omega), e1]
      by_cases hj : j = Int32.toNatClampNeg k
      · subst hj
        rw [if_neg (by omega), va_up_self, if_pos (by omega)]
      · rw [va_up_ne _ _ hj]
        by_cases h2 : k.toInt + 1 ≤ j ∧ j < 112
        · rw [if_pos h2, if_pos (by omega)]
        · rw [if_neg h2, if_neg (by omega)]
theorem hold_eq (σ α : Nat → Int32) (j : Nat) : S_X10_hold σ α j = if j < 112 then σ j else α j := by
  show L_X10_hold_2 113 σ α 0 α j = _
  rw [L_hold_eq 113 0 α (by decide) (by decide) j]
  have : (0 : Int32).toInt = 0 := rfl
  by_cases h : j < 112
  · rw [if_pos (by omega), if_pos h]
  · rw [if_neg (by omega), if_neg h]
theorem L_release_eq {σ α : Nat → Int32} : ∀ (fu : Nat) (k : Int32) (a : Nat → Int32), 0 ≤ k.toInt → (112 - k.toInt).toNat < fu → ∀ j : Nat, L_X10_release_2 fu σ α k a j = if k.toInt ≤ j ∧ j < 112 then α j else a j := by
  intro fu
  induction fu with
  | zero => intro k a _ h; exact absurd h (Nat.not_lt_zero _)
  | succ fu ih =>
    intro k a h0 hm j
    show (if 112 ≤ k then a else L_X10_release_2 fu σ α (k + 1) (va_up a (Int32.toNatClampNeg k) (α (Int32.toNatClampNeg k)))) j = _
    by_cases c1 : 112 ≤ k
    · have h1 : (112 : Int) ≤ k.toInt := Int32.le_iff_toInt_le.mp c1
      rw [if_pos c1, if_neg (by omega)]
    · have h1 : k.toInt < 112 := nle c1
      obtain ⟨e1, e2⟩ := up_int (j := 0) h0 (by omega)
      rw [if_neg c1, ih _ _ (by omega) (by omega), e1]
      by_cases hj : j = Int32.toNatClampNeg k
      · subst hj
        rw [if_neg (by omega), va_up_self, if_pos (by omega)]
      · rw [va_up_ne _ _ hj]
        by_cases h2 : k.toInt + 1 ≤ j ∧ j < 112
        · rw [if_pos h2, if_pos (by omega)]
        · rw [if_neg h2, if_neg (by omega)]
theorem release_eq (σ α : Nat → Int32) (j : Nat) : S_X10_release σ α j = if j < 112 then α j else σ j := by
  show L_X10_release_2 113 σ α 0 σ j = _
  rw [L_release_eq 113 0 σ (by decide) (by decide) j]
  have : (0 : Int32).toInt = 0 := rfl
  by_cases h : j < 112
  · rw [if_pos (by omega), if_pos h]
  · rw [if_neg (by omega), if_neg h]
theorem MI_of112 {σ σ' : Nat → Int32} (h : ∀ k, k < 112 → σ' k = σ k) (hI : MI σ) : MI σ' := by
  obtain ⟨⟨h1, h2, h3⟩, h4, h5⟩ := hI
  unfold MI PI
  rw [h 32 (by omega), h 49 (by omega), h 5 (by omega)]
  refine ⟨⟨h1, fun j hj => ?_, fun j hj => ?_⟩, h4, h5⟩
  · rw [h _ (by omega), h _ (by omega)]
    exact h2 j hj
  · rw [h _ (by omega)]
    exact h3 j hj
theorem MI_hold {σ α : Nat → Int32} (h : MI σ) : MI (S_X10_hold σ α) := MI_of112 (fun k hk => by rw [hold_eq, if_pos hk]) h
theorem MI_release {σ α : Nat → Int32} (h : MI α) : MI (S_X10_release σ α) := MI_of112 (fun k hk => by rw [release_eq, if_pos hk]) h
theorem ix_len {x : Int32} (h : 0 ≤ x.toInt ∧ x.toInt ≤ 100) (hn : ¬ x = 100) : vp_in x 100 := by
  have : x.toInt ≠ 100 := fun e => hn (Int32.toInt_inj.mp e)
  exact vin_i h.1 (by omega)
theorem ms_dlt {k b : Int32} {f : Nat} (hb : -2147483648 < b.toInt) (h : ¬ k < b) (hm : (k.toInt + 1 - b.toInt).toNat < f + 1) : ((k + (-1)).toInt + 1 - b.toInt).toNat < f := by
  have h1 := nlt h
  have h2 := Int32.toInt_lt k
  have e : (k + (-1)).toInt = k.toInt + (-1) := ta (b := -1) (by show -2147483648 ≤ k.toInt + (-1); omega) (by show k.toInt + (-1) < 2147483648; omega)
  omega
theorem ix_drop {a : Int32} (h : a.toInt ≤ 111) (c : ¬ a < 70) : vp_in a 112 ∧ vp_in (a - 6) 112 ∧ (a + (-1)).toInt ≤ 111 := by
  have h1 : (70 : Int) ≤ a.toInt := nlt c
  have e : (a + (-1)).toInt = a.toInt + (-1) := ta (b := -1) (by show -2147483648 ≤ a.toInt + (-1); omega) (by show a.toInt + (-1) < 2147483648; omega)
  have e6 : (a - 6).toInt = a.toInt - 6 := tsu (b := 6) (by show -2147483648 ≤ a.toInt - 6; omega) (by show a.toInt - 6 < 2147483648; omega)
  exact ⟨vin_i (by omega) (by omega), vin_i (by omega) (by omega), by omega⟩
theorem in_of {a b d : Int32} (h : ¬ S_X10_in a b d = 0) : b.toInt ≤ a.toInt ∧ a.toInt ≤ d.toInt := by
  unfold S_X10_in at h
  by_cases c1 : a < b
  · rw [if_pos c1] at h; exact absurd rfl h
  · by_cases c2 : d < a
    · rw [if_neg c1, if_pos c2] at h; exact absurd rfl h
    · exact ⟨nlt c1, nlt c2⟩
theorem ix_bat {w : Int32} (h : ¬ S_X10_in w 0 9 = 0) : vp_in (16 + w) 112 := by
  have h1 := in_of h
  have : (0 : Int32).toInt = 0 := rfl
  have : (9 : Int32).toInt = 9 := rfl
  have e : (16 + w).toInt = 16 + w.toInt := ta (a := 16) (by show -2147483648 ≤ 16 + w.toInt; omega) (by show 16 + w.toInt < 2147483648; omega)
  exact vin_i (by omega) (by omega)
theorem e_log {k w : Int32} (h0 : 0 ≤ k.toInt ∧ k.toInt ≤ 7) (hw : 0 ≤ w.toInt ∧ w.toInt ≤ 5) : (64 + 6 * k).toInt = 64 + 6 * k.toInt ∧ (64 + 6 * k + w).toInt = 64 + 6 * k.toInt + w.toInt := by
  have e1 : (6 * k).toInt = 6 * k.toInt := tml (a := 6) (by show -2147483648 ≤ 6 * k.toInt; omega) (by show 6 * k.toInt < 2147483648; omega)
  have e2 : (64 + 6 * k).toInt = 64 + 6 * k.toInt := by
    rw [ta (a := 64) (by rw [e1]; show -2147483648 ≤ 64 + 6 * k.toInt; omega) (by rw [e1]; show 64 + 6 * k.toInt < 2147483648; omega), e1]
    rfl
  exact ⟨e2, by rw [ta (by omega) (by omega), e2]⟩
theorem ix_log {k w : Int32} (h0 : 0 ≤ k.toInt ∧ k.toInt ≤ 7) (hw : 0 ≤ w.toInt ∧ w.toInt ≤ 5) : vp_in (64 + 6 * k) 112 ∧ vp_in (64 + 6 * k + w) 112 := by
  obtain ⟨a, b⟩ := e_log h0 hw
  exact ⟨vin_i (by omega) (by omega), vin_i (by omega) (by omega)⟩
theorem ix_logged {σ : Nat → Int32} {k w : Int32} (hl : (σ 63).toInt ≤ 8) (h0 : ¬ k < 0) (h1 : ¬ σ 63 ≤ k) (hw : ¬ S_X10_in w 0 5 = 0) : vp_in (64 + 6 * k + w) 112 := by
  have a1 : (0 : Int) ≤ k.toInt := nlt h0
  have a2 := nle h1
  have a3 := in_of hw
  exact (ix_log ⟨a1, by omega⟩ a3).2
theorem isAt_lt {σ : Nat → Int32} {li ma kk ke : Int32} (h : ¬ S_X10_isAt σ li ma kk ke = 0) : kk.toInt < ma.toInt := by
  unfold S_X10_isAt at h
  by_cases c : ma ≤ kk
  · rw [if_pos c] at h; exact absurd rfl h
  · exact nle c
theorem out_pre {σ : Nat → Int32} {li ma ke : Int32} (hm : 0 ≤ ma.toInt ∧ ma.toInt ≤ 8) (h : ¬ S_X10_isAt σ li ma (S_X10_place σ li ma ke) ke = 0) : (1 ≤ ma.toInt ∧ ma.toInt ≤ 8) ∧ 0 ≤ (S_X10_place σ li ma ke).toInt ∧ (S_X10_place σ li ma ke).toInt ≤ 8 := by
  have h1 := isAt_lt h
  have h2 := pbd8 (σ := σ) (li := li) (ke := ke) hm
  exact ⟨⟨by omega, hm.2⟩, h2⟩
theorem MI.c49 {σ : Nat → Int32} (h : MI σ) : 0 ≤ (σ 49).toInt ∧ (σ 49).toInt ≤ 8 := ⟨h.2.1.1, Int.le_trans h.2.1.2 (by decide)⟩
theorem MI_X10_tick {σ : Nat → Int32} (h : MI σ) : MI (S_X10_tick σ) := by
  have i1 : MI (T_X10_tick_r1 σ) := MI_up (by decide) (by decide) h
  have i5 : MI (T_X10_tick_r5 σ) := MI_up (by decide) (by decide) i1
  have i7 : MI (T_X10_tick_m7 σ) := by
    unfold T_X10_tick_m7
    split
    · exact i5
    · exact MI_X10_control i5
  have i10 : MI (T_X10_tick_r10 σ) := MI_up (by decide) (by decide) i7
  have i12 : MI (T_X10_tick_m12 σ) := by
    unfold T_X10_tick_m12
    split
    · split
      · exact MI_up (by decide) (by decide) i10
      · exact i10
    · exact MI_up (by decide) (by decide) (MI_X10_crack (MI_up (by decide) (by decide) (MI_up (by decide) (by decide) (MI_up (by decide) (by decide) i10))))
  have i27 : MI (T_X10_tick_r27 σ) := MI_up (by decide) (by decide) i12
  show MI (T_X10_tick_m29 σ)
  unfold T_X10_tick_m29
  split
  · exact i27
  · exact MI_X10_detect i27
theorem sm_un {m : Int32} (h : 0 ≤ m.toInt ∧ m.toInt ≤ 5) (h0 : ¬ m = 0) : 0 ≤ (m - 1).toInt ∧ (m - 1).toInt ≤ 4 := by
  have : m.toInt ≠ 0 := fun e => h0 (Int32.toInt_inj.mp e)
  have e : (m - 1).toInt = m.toInt - 1 := tsu (b := 1) (by show -2147483648 ≤ m.toInt - 1; omega) (by show m.toInt - 1 < 2147483648; omega)
  omega
def S_X10_setAmbient (κ : Nat → Int32) (σ : Nat → Int32) (β : Nat → Int32) (am : Int32) : Int32 × (Nat → Int32) × (Nat → Int32) × (Nat → Int32) := let r1 : Nat → Int32 := va_up κ 0 0; if (S_X10_in am 0 400) = 0 then (((-100001), r1, σ, β)) else (let r3 : Nat → Int32 := (S_X10_put r1 σ β 3 am).2.1; let r4 : Nat → Int32 := (S_X10_put r1 σ β 3 am).2.2.1; let r5 : Nat → Int32 := (S_X10_put r1 σ β 3 am).2.2.2; ((S_X10_put r1 σ β 3 am).1, r3, r4, r5))
set_option maxRecDepth 100000 in
set_option maxHeartbeats 4000000 in
theorem c_X10_setAmbient {G : Geo} {l : Launch} (hG : GOK G) {h : Hp} {κ : Nat → Int32} {σ : Nat → Int32} {β : Nat → Int32} (am : Int32) (hM : MT G) (hr_36 : h 36 = κ) (hr_37 : h 37 = σ) (hr_39 : h 39 = β) (hsm : 0 ≤ (κ 1).toInt ∧ (κ 1).toInt ≤ 5) : CM G l yX10_setAmbient cX10_setAmbient 2 (some .int) 2 44 [.ref (gA G 36 0), .int am] h (va_up (va_up (va_up h 36 ((S_X10_setAmbient κ σ β am).2.1)) 37 ((S_X10_setAmbient κ σ β am).2.2.1)) 39 ((S_X10_setAmbient κ σ β am).2.2.2)) (some (.int ((S_X10_setAmbient κ σ β am).1))) := by
  obtain ⟨Z, hZ⟩ : ∃ Z, S_X10_setAmbient κ σ β am = Z := ⟨_, rfl⟩
  rw [hZ]
  refine q_enter hG mf_X10_setAmbient (Nat.le_of_ble_eq_true rfl) ?_
  intro p e s m below meth c X hret
  have hT_36 : gT G 36 = 9 := hM 36 (by decide) (by decide)
  have hT_37 : gT G 37 = 10 := hM 37 (by decide) (by decide)
  have hT_39 : gT G 39 = 11 := hM 39 (by decide) (by decide)
  refine q_lv (lv2 := [(0, .ref (gA G 36 0)), (1, .int am)]) rfl ?_
  refine q_aload_n X 0 dX10_setAmbient_0 rfl ?_
  refine q_iconst (v := 0) X dX10_setAmbient_1 (by decide) ?_
  obtain ⟨r1, e_r1⟩ : ∃ z : Nat → Int32, z = va_up κ 0 0 := ⟨_, rfl⟩
  refine q_put (fk := 0) (h2 := va_up h 36 r1) X cf_X10 (ac_9_0 hT_36) (by decide) fl_X10_25 rfl rfl (by rw [hT_36]; rfl) rfl rfl rfl dX10_setAmbient_2 (hr_36) (by rw [e_r1]) ?_
  refine q_iload_n X 1 dX10_setAmbient_5 rfl ?_
  refine q_iconst (v := 0) X dX10_setAmbient_6 (by decide) ?_
  refine q_sipush (v := 400) X dX10_setAmbient_7 (by decide) ?_
  refine q_callS (h1 := _) (rest := []) (As := [.int am, .int 0, .int 400]) X (c_X10_in (l := l) hG   am 0 400 ) mf_X10_in ms_X10_in lk_X10_39 rfl ⟨by decide, by decide⟩ ⟨Nat.le_refl _, Nat.le_refl _⟩ rfl (Nat.le_of_ble_eq_true rfl) dX10_setAmbient_10 (st2 := [.int (S_X10_in am 0 400)]) rfl ?_
  refine q_if_eq (tgt := 25) X dX10_setAmbient_13 (by decide) (fun c2 => ?_) (fun c2 => ?_)
  · skip
    refine q_ldc X kc_X10_47 dX10_setAmbient_25 ?_
    have E : Z = ((-100001), r1, σ, β) := by subst e_r1; exact hZ.symm.trans ((if_pos c2).trans rfl)
    exact q_iret X hret dX10_setAmbient_27 (by rw [E]) (by rw [E]; (funext x; simp only [va_up]; (repeat' split) <;> first | rfl | omega | (subst_vars; rfl) | (subst_vars; assumption)))
  · skip
    refine q_aload_n X 0 dX10_setAmbient_16 rfl ?_
    refine q_iconst (v := 3) X dX10_setAmbient_17 (by decide) ?_
    refine q_iload_n X 1 dX10_setAmbient_18 rfl ?_
    obtain ⟨r3, e_r3⟩ : ∃ z : Nat → Int32, z = (S_X10_put r1 σ β 3 am).2.1 := ⟨_, rfl⟩
    obtain ⟨r4, e_r4⟩ : ∃ z : Nat → Int32, z = (S_X10_put r1 σ β 3 am).2.2.1 := ⟨_, rfl⟩
    obtain ⟨r5, e_r5⟩ : ∃ z : Nat → Int32, z = (S_X10_put r1 σ β 3 am).2.2.2 := ⟨_, rfl⟩
    refine q_callV (h1 := _) (rest := []) (As := [.int 3, .int am]) X (c_X10_put (l := l) hG (κ := r1) (σ := σ) (β := β)  3 am hM (va_up_self _ _ _) ((va_up_ne _ _ (by decide)).trans (hr_37)) ((va_up_ne _ _ (by decide)).trans (hr_39)) (by subst_vars; exact hsm) (vin_lit (by decide))) mf_X10_put mv_X10_put cf_X10 rfl (ac_9_0 hT_36) lk_X10_43 rfl ⟨by decide, by decide⟩ ⟨Nat.le_refl _, Nat.le_refl _⟩ rfl (Nat.le_of_ble_eq_true rfl) dX10_setAmbient_19 (st2 := [.int ((S_X10_put r1 σ β 3 am).1)]) rfl ?_
    refine q_eq (h2 := va_up (va_up (va_up h 36 r3) 37 r4) 39 r5) (by rw [← e_r3, ← e_r4, ← e_r5]; (funext x; simp only [va_up]; (repeat' split) <;> first | rfl | omega)) rfl ?_
    refine q_goto (tgt := 27) X dX10_setAmbient_22 (by decide) ?_
    have E : Z = ((S_X10_put r1 σ β 3 am).1, r3, r4, r5) := by subst e_r5; subst e_r4; subst e_r3; subst e_r1; exact hZ.symm.trans ((if_neg c2).trans rfl)
    exact q_iret X hret dX10_setAmbient_27 (by rw [E]) (by rw [E])
def S_X10_setPower (κ : Nat → Int32) (σ : Nat → Int32) (β : Nat → Int32) (po : Int32) : Int32 × (Nat → Int32) × (Nat → Int32) × (Nat → Int32) := let r1 : Nat → Int32 := va_up κ 0 0; if (S_X10_in po 0 100) = 0 then (((-100001), r1, σ, β)) else (let r3 : Nat → Int32 := (S_X10_put r1 σ β 7 po).2.1; let r4 : Nat → Int32 := (S_X10_put r1 σ β 7 po).2.2.1; let r5 : Nat → Int32 := (S_X10_put r1 σ β 7 po).2.2.2; ((S_X10_put r1 σ β 7 po).1, r3, r4, r5))
set_option maxRecDepth 100000 in
set_option maxHeartbeats 4000000 in
theorem c_X10_setPower {G : Geo} {l : Launch} (hG : GOK G) {h : Hp} {κ : Nat → Int32} {σ : Nat → Int32} {β : Nat → Int32} (po : Int32) (hM : MT G) (hr_36 : h 36 = κ) (hr_37 : h 37 = σ) (hr_39 : h 39 = β) (hsm : 0 ≤ (κ 1).toInt ∧ (κ 1).toInt ≤ 5) : CM G l yX10_setPower cX10_setPower 2 (some .int) 2 44 [.ref (gA G 36 0), .int po] h (va_up (va_up (va_up h 36 ((S_X10_setPower κ σ β po).2.1)) 37 ((S_X10_setPower κ σ β po).2.2.1)) 39 ((S_X10_setPower κ σ β po).2.2.2)) (some (.int ((S_X10_setPower κ σ β po).1))) := by
  obtain ⟨Z, hZ⟩ : ∃ Z, S_X10_setPower κ σ β po = Z := ⟨_, rfl⟩
  rw [hZ]
  refine q_enter hG mf_X10_setPower (Nat.le_of_ble_eq_true rfl) ?_
  intro p e s m below meth c X hret
  have hT_36 : gT G 36 = 9 := hM 36 (by decide) (by decide)
  have hT_37 : gT G 37 = 10 := hM 37 (by decide) (by decide)
  have hT_39 : gT G 39 = 11 := hM 39 (by decide) (by decide)
  refine q_lv (lv2 := [(0, .ref (gA G 36 0)), (1, .int po)]) rfl ?_
  refine q_aload_n X 0 dX10_setPower_0 rfl ?_
  refine q_iconst (v := 0) X dX10_setPower_1 (by decide) ?_
  obtain ⟨r1, e_r1⟩ : ∃ z : Nat → Int32, z = va_up κ 0 0 := ⟨_, rfl⟩
  refine q_put (fk := 0) (h2 := va_up h 36 r1) X cf_X10 (ac_9_0 hT_36) (by decide) fl_X10_25 rfl rfl (by rw [hT_36]; rfl) rfl rfl rfl dX10_setPower_2 (hr_36) (by rw [e_r1]) ?_
  refine q_iload_n X 1 dX10_setPower_5 rfl ?_
  refine q_iconst (v := 0) X dX10_setPower_6 (by decide) ?_
  refine q_bipush (v := 100) X dX10_setPower_7 (by decide) ?_
  refine q_callS (h1 := _) (rest := []) (As := [.int po, .int 0, .int 100]) X (c_X10_in (l := l) hG   po 0 100 ) mf_X10_in ms_X10_in lk_X10_39 rfl ⟨by decide, by decide⟩ ⟨Nat.le_refl _, Nat.le_refl _⟩ rfl (Nat.le_of_ble_eq_true rfl) dX10_setPower_9 (st2 := [.int (S_X10_in po 0 100)]) rfl ?_
  refine q_if_eq (tgt := 25) X dX10_setPower_12 (by decide) (fun c2 => ?_) (fun c2 => ?_)
  · skip
    refine q_ldc X kc_X10_47 dX10_setPower_25 ?_
    have E : Z = ((-100001), r1, σ, β) := by subst e_r1; exact hZ.symm.trans ((if_pos c2).trans rfl)
    exact q_iret X hret dX10_setPower_27 (by rw [E]) (by rw [E]; (funext x; simp only [va_up]; (repeat' split) <;> first | rfl | omega | (subst_vars; rfl) | (subst_vars; assumption)))
  · skip
    refine q_aload_n X 0 dX10_setPower_15 rfl ?_
    refine q_bipush (v := 7) X dX10_setPower_16 (by decide) ?_
    refine q_iload_n X 1 dX10_setPower_18 rfl ?_
    obtain ⟨r3, e_r3⟩ : ∃ z : Nat → Int32, z = (S_X10_put r1 σ β 7 po).2.1 := ⟨_, rfl⟩
    obtain ⟨r4, e_r4⟩ : ∃ z : Nat → Int32, z = (S_X10_put r1 σ β 7 po).2.2.1 := ⟨_, rfl⟩
    obtain ⟨r5, e_r5⟩ : ∃ z : Nat → Int32, z = (S_X10_put r1 σ β 7 po).2.2.2 := ⟨_, rfl⟩
    refine q_callV (h1 := _) (rest := []) (As := [.int 7, .int po]) X (c_X10_put (l := l) hG (κ := r1) (σ := σ) (β := β)  7 po hM (va_up_self _ _ _) ((va_up_ne _ _ (by decide)).trans (hr_37)) ((va_up_ne _ _ (by decide)).trans (hr_39)) (by subst_vars; exact hsm) (vin_lit (by decide))) mf_X10_put mv_X10_put cf_X10 rfl (ac_9_0 hT_36) lk_X10_43 rfl ⟨by decide, by decide⟩ ⟨Nat.le_refl _, Nat.le_refl _⟩ rfl (Nat.le_of_ble_eq_true rfl) dX10_setPower_19 (st2 := [.int ((S_X10_put r1 σ β 7 po).1)]) rfl ?_
    refine q_eq (h2 := va_up (va_up (va_up h 36 r3) 37 r4) 39 r5) (by rw [← e_r3, ← e_r4, ← e_r5]; (funext x; simp only [va_up]; (repeat' split) <;> first | rfl | omega)) rfl ?_
    refine q_goto (tgt := 27) X dX10_setPower_22 (by decide) ?_
    have E : Z = ((S_X10_put r1 σ β 7 po).1, r3, r4, r5) := by subst e_r5; subst e_r4; subst e_r3; subst e_r1; exact hZ.symm.trans ((if_neg c2).trans rfl)
    exact q_iret X hret dX10_setPower_27 (by rw [E]) (by rw [E])
def S_X10_setController (κ : Nat → Int32) (σ : Nat → Int32) (β : Nat → Int32) (on : Int32) (pp : Int32) (ii : Int32) (bi : Int32) : Int32 × (Nat → Int32) × (Nat → Int32) × (Nat → Int32) := let r1 : Nat → Int32 := va_up κ 0 0; if (S_X10_in on 0 1) = 0 then (((-100001), r1, σ, β)) else (if (S_X10_in pp 0 200) = 0 then (((-100001), r1, σ, β)) else (if (S_X10_in ii 0 200) = 0 then (((-100001), r1, σ, β)) else (if (S_X10_in bi 0 100) = 0 then (((-100001), r1, σ, β)) else (let m7 : Int32 := if (σ 9) = on then (if (σ 10) = pp then (if (σ 11) = ii then (if (σ 12) = bi then (1) else (0)) else (0)) else (0)) else (0); let r12 : Nat → Int32 := (S_X10_act r1 σ β).1; let r13 : Nat → Int32 := (S_X10_act r1 σ β).2; let r14 : Nat → Int32 := va_up σ 9 on; let r15 : Nat → Int32 := va_up r14 10 pp; let r16 : Nat → Int32 := va_up r15 11 ii; let r17 : Nat → Int32 := va_up r16 12 bi; let m19 : Int32 := if m7 = 0 then (1) else (0); (m19, r12, r17, r13)))))
set_option maxRecDepth 100000 in
set_option maxHeartbeats 4000000 in
theorem c_X10_setController {G : Geo} {l : Launch} (hG : GOK G) {h : Hp} {κ : Nat → Int32} {σ : Nat → Int32} {β : Nat → Int32} (on : Int32) (pp : Int32) (ii : Int32) (bi : Int32) (hM : MT G) (hr_36 : h 36 = κ) (hr_37 : h 37 = σ) (hr_39 : h 39 = β) (hsm : 0 ≤ (κ 1).toInt ∧ (κ 1).toInt ≤ 5) : CM G l yX10_setController cX10_setController 6 (some .int) 1 22 [.ref (gA G 36 0), .int on, .int pp, .int ii, .int bi] h (va_up (va_up (va_up h 36 ((S_X10_setController κ σ β on pp ii bi).2.1)) 37 ((S_X10_setController κ σ β on pp ii bi).2.2.1)) 39 ((S_X10_setController κ σ β on pp ii bi).2.2.2)) (some (.int ((S_X10_setController κ σ β on pp ii bi).1))) := by
  obtain ⟨Z, hZ⟩ : ∃ Z, S_X10_setController κ σ β on pp ii bi = Z := ⟨_, rfl⟩
  rw [hZ]
  refine q_enter hG mf_X10_setController (Nat.le_of_ble_eq_true rfl) ?_
  intro p e s m below meth c X hret
  have hT_36 : gT G 36 = 9 := hM 36 (by decide) (by decide)
  have hT_37 : gT G 37 = 10 := hM 37 (by decide) (by decide)
  have hT_39 : gT G 39 = 11 := hM 39 (by decide) (by decide)
  refine q_lv (lv2 := [(0, .ref (gA G 36 0)), (1, .int on), (2, .int pp), (3, .int ii), (4, .int bi)]) rfl ?_
  refine q_aload_n X 0 dX10_setController_0 rfl ?_
  refine q_iconst (v := 0) X dX10_setController_1 (by decide) ?_
  obtain ⟨r1, e_r1⟩ : ∃ z : Nat → Int32, z = va_up κ 0 0 := ⟨_, rfl⟩
  refine q_put (fk := 0) (h2 := va_up h 36 r1) X cf_X10 (ac_9_0 hT_36) (by decide) fl_X10_25 rfl rfl (by rw [hT_36]; rfl) rfl rfl rfl dX10_setController_2 (hr_36) (by rw [e_r1]) ?_
  refine q_iload_n X 1 dX10_setController_5 rfl ?_
  refine q_iconst (v := 0) X dX10_setController_6 (by decide) ?_
  refine q_iconst (v := 1) X dX10_setController_7 (by decide) ?_
  refine q_callS (h1 := _) (rest := []) (As := [.int on, .int 0, .int 1]) X (c_X10_in (l := l) hG   on 0 1 ) mf_X10_in ms_X10_in lk_X10_39 rfl ⟨by decide, by decide⟩ ⟨Nat.le_refl _, Nat.le_refl _⟩ rfl (Nat.le_of_ble_eq_true rfl) dX10_setController_8 (st2 := [.int (S_X10_in on 0 1)]) rfl ?_
  refine q_if_eq (tgt := 47) X dX10_setController_11 (by decide) (fun c2 => ?_) (fun c2 => ?_)
  · skip
    refine q_ldc X kc_X10_47 dX10_setController_47 ?_
    have E : Z = ((-100001), r1, σ, β) := by subst e_r1; exact hZ.symm.trans ((if_pos c2).trans rfl)
    exact q_iret X hret dX10_setController_49 (by rw [E]) (by rw [E]; (funext x; simp only [va_up]; (repeat' split) <;> first | rfl | omega | (subst_vars; rfl) | (subst_vars; assumption)))
  · skip
    refine q_iload_n X 2 dX10_setController_14 rfl ?_
    refine q_iconst (v := 0) X dX10_setController_15 (by decide) ?_
    refine q_sipush (v := 200) X dX10_setController_16 (by decide) ?_
    refine q_callS (h1 := _) (rest := []) (As := [.int pp, .int 0, .int 200]) X (c_X10_in (l := l) hG   pp 0 200 ) mf_X10_in ms_X10_in lk_X10_39 rfl ⟨by decide, by decide⟩ ⟨Nat.le_refl _, Nat.le_refl _⟩ rfl (Nat.le_of_ble_eq_true rfl) dX10_setController_19 (st2 := [.int (S_X10_in pp 0 200)]) rfl ?_
    refine q_if_eq (tgt := 47) X dX10_setController_22 (by decide) (fun c3 => ?_) (fun c3 => ?_)
    · skip
      refine q_ldc X kc_X10_47 dX10_setController_47 ?_
      have E : Z = ((-100001), r1, σ, β) := by subst e_r1; exact hZ.symm.trans ((if_neg c2).trans ((if_pos c3).trans rfl))
      exact q_iret X hret dX10_setController_49 (by rw [E]) (by rw [E]; (funext x; simp only [va_up]; (repeat' split) <;> first | rfl | omega | (subst_vars; rfl) | (subst_vars; assumption)))
    · skip
      refine q_iload_n X 3 dX10_setController_25 rfl ?_
      refine q_iconst (v := 0) X dX10_setController_26 (by decide) ?_
      refine q_sipush (v := 200) X dX10_setController_27 (by decide) ?_
      refine q_callS (h1 := _) (rest := []) (As := [.int ii, .int 0, .int 200]) X (c_X10_in (l := l) hG   ii 0 200 ) mf_X10_in ms_X10_in lk_X10_39 rfl ⟨by decide, by decide⟩ ⟨Nat.le_refl _, Nat.le_refl _⟩ rfl (Nat.le_of_ble_eq_true rfl) dX10_setController_30 (st2 := [.int (S_X10_in ii 0 200)]) rfl ?_
      refine q_if_eq (tgt := 47) X dX10_setController_33 (by decide) (fun c4 => ?_) (fun c4 => ?_)
      · skip
        refine q_ldc X kc_X10_47 dX10_setController_47 ?_
        have E : Z = ((-100001), r1, σ, β) := by subst e_r1; exact hZ.symm.trans ((if_neg c2).trans ((if_neg c3).trans ((if_pos c4).trans rfl)))
        exact q_iret X hret dX10_setController_49 (by rw [E]) (by rw [E]; (funext x; simp only [va_up]; (repeat' split) <;> first | rfl | omega | (subst_vars; rfl) | (subst_vars; assumption)))
      · skip
        refine q_iload X 4 dX10_setController_36 rfl ?_
        refine q_iconst (v := 0) X dX10_setController_38 (by decide) ?_
        refine q_bipush (v := 100) X dX10_setController_39 (by decide) ?_
        refine q_callS (h1 := _) (rest := []) (As := [.int bi, .int 0, .int 100]) X (c_X10_in (l := l) hG   bi 0 100 ) mf_X10_in ms_X10_in lk_X10_39 rfl ⟨by decide, by decide⟩ ⟨Nat.le_refl _, Nat.le_refl _⟩ rfl (Nat.le_of_ble_eq_true rfl) dX10_setController_41 (st2 := [.int (S_X10_in bi 0 100)]) rfl ?_
        refine q_if_ne (tgt := 50) X dX10_setController_44 (by decide) (fun c5 => ?_) (fun c5 => ?_)
        · skip
          refine q_aload_n X 0 dX10_setController_50 rfl ?_
          refine q_get (fk := 1) (v := .ref (gA G 37 0)) X cf_X10 (ac_9_0 hT_36) (by decide) fl_X10_7 rfl rfl dX10_setController_51 rfl ?_
          refine q_bipush (v := 9) X dX10_setController_54 (by decide) ?_
          refine q_iald (x := σ 9) X (ac_10_0 hT_37) (by rw [hT_37]; exact vin_lit (by decide)) dX10_setController_56 ((va_up_ne _ _ (by decide)).trans (hr_37)) rfl ?_
          refine q_iload_n X 1 dX10_setController_57 rfl ?_
          suffices hJ11 : ∀ (m7 : Int32), m7 = (if (σ 9) = on then (if (σ 10) = pp then (if (σ 11) = ii then (if (σ 12) = bi then (1) else (0)) else (0)) else (0)) else (0)) → VV G (AA G) p l e { frames := 1, cells := 0, slots := 0, locals := 22 } s m ([.ref (gA G 36 0), .int on, .int pp, .int ii, .int bi] : List Value).toArray below meth c 0 0 (MQ below (QC G (va_up (va_up (va_up h 36 Z.2.1) 37 Z.2.2.1) 39 Z.2.2.2) (some (.int Z.1))) ([.ref (gA G 36 0), .int on, .int pp, .int ii, .int bi] : List Value).toArray s 0 0 (AA G)) 6 (va_up h 36 r1) 100 [(0, .ref (gA G 36 0)), (1, .int on), (2, .int pp), (3, .int ii), (4, .int bi)] [.int m7] by
            refine q_icmp_ne (tgt := 99) X dX10_setController_58 (by decide) (fun c6 => ?_) (fun c6 => ?_)
            · skip
              refine q_iconst (v := 0) X dX10_setController_99 (by decide) ?_
              refine q_sub (lv2 := [(0, .ref (gA G 36 0)), (1, .int on), (2, .int pp), (3, .int ii), (4, .int bi)]) [0, 1, 2, 3, 4] rfl ?_
              exact hJ11 0 (by exact ((if_neg c6).trans rfl).symm)
            · skip
              refine q_aload_n X 0 dX10_setController_61 rfl ?_
              refine q_get (fk := 1) (v := .ref (gA G 37 0)) X cf_X10 (ac_9_0 hT_36) (by decide) fl_X10_7 rfl rfl dX10_setController_62 rfl ?_
              refine q_bipush (v := 10) X dX10_setController_65 (by decide) ?_
              refine q_iald (x := σ 10) X (ac_10_0 hT_37) (by rw [hT_37]; exact vin_lit (by decide)) dX10_setController_67 ((va_up_ne _ _ (by decide)).trans (hr_37)) rfl ?_
              refine q_iload_n X 2 dX10_setController_68 rfl ?_
              refine q_icmp_ne (tgt := 99) X dX10_setController_69 (by decide) (fun c8 => ?_) (fun c8 => ?_)
              · skip
                refine q_iconst (v := 0) X dX10_setController_99 (by decide) ?_
                refine q_sub (lv2 := [(0, .ref (gA G 36 0)), (1, .int on), (2, .int pp), (3, .int ii), (4, .int bi)]) [0, 1, 2, 3, 4] rfl ?_
                exact hJ11 0 (by exact ((if_pos c6).trans ((if_neg c8).trans rfl)).symm)
              · skip
                refine q_aload_n X 0 dX10_setController_72 rfl ?_
                refine q_get (fk := 1) (v := .ref (gA G 37 0)) X cf_X10 (ac_9_0 hT_36) (by decide) fl_X10_7 rfl rfl dX10_setController_73 rfl ?_
                refine q_bipush (v := 11) X dX10_setController_76 (by decide) ?_
                refine q_iald (x := σ 11) X (ac_10_0 hT_37) (by rw [hT_37]; exact vin_lit (by decide)) dX10_setController_78 ((va_up_ne _ _ (by decide)).trans (hr_37)) rfl ?_
                refine q_iload_n X 3 dX10_setController_79 rfl ?_
                refine q_icmp_ne (tgt := 99) X dX10_setController_80 (by decide) (fun c9 => ?_) (fun c9 => ?_)
                · skip
                  refine q_iconst (v := 0) X dX10_setController_99 (by decide) ?_
                  refine q_sub (lv2 := [(0, .ref (gA G 36 0)), (1, .int on), (2, .int pp), (3, .int ii), (4, .int bi)]) [0, 1, 2, 3, 4] rfl ?_
                  exact hJ11 0 (by exact ((if_pos c6).trans ((if_pos c8).trans ((if_neg c9).trans rfl))).symm)
                · skip
                  refine q_aload_n X 0 dX10_setController_83 rfl ?_
                  refine q_get (fk := 1) (v := .ref (gA G 37 0)) X cf_X10 (ac_9_0 hT_36) (by decide) fl_X10_7 rfl rfl dX10_setController_84 rfl ?_
                  refine q_bipush (v := 12) X dX10_setController_87 (by decide) ?_
                  refine q_iald (x := σ 12) X (ac_10_0 hT_37) (by rw [hT_37]; exact vin_lit (by decide)) dX10_setController_89 ((va_up_ne _ _ (by decide)).trans (hr_37)) rfl ?_
                  refine q_iload X 4 dX10_setController_90 rfl ?_
                  refine q_icmp_ne (tgt := 99) X dX10_setController_92 (by decide) (fun c10 => ?_) (fun c10 => ?_)
                  · skip
                    refine q_iconst (v := 0) X dX10_setController_99 (by decide) ?_
                    refine q_sub (lv2 := [(0, .ref (gA G 36 0)), (1, .int on), (2, .int pp), (3, .int ii), (4, .int bi)]) [0, 1, 2, 3, 4] rfl ?_
                    exact hJ11 0 (by exact ((if_pos c6).trans ((if_pos c8).trans ((if_pos c9).trans ((if_neg c10).trans rfl)))).symm)
                  · skip
                    refine q_iconst (v := 1) X dX10_setController_95 (by decide) ?_
                    refine q_goto (tgt := 100) X dX10_setController_96 (by decide) ?_
                    refine q_sub (lv2 := [(0, .ref (gA G 36 0)), (1, .int on), (2, .int pp), (3, .int ii), (4, .int bi)]) [0, 1, 2, 3, 4] rfl ?_
                    exact hJ11 1 (by exact ((if_pos c6).trans ((if_pos c8).trans ((if_pos c9).trans ((if_pos c10).trans rfl)))).symm)
          intro m7 e_m7
          refine q_istore (lv' := [(5, .int m7), (0, .ref (gA G 36 0)), (1, .int on), (2, .int pp), (3, .int ii), (4, .int bi)]) X dX10_setController_100 (by decide) rfl ?_
          refine q_aload_n X 1 dX10_setController_102 rfl ?_
          obtain ⟨r12, e_r12⟩ : ∃ z : Nat → Int32, z = (S_X10_act r1 σ β).1 := ⟨_, rfl⟩
          obtain ⟨r13, e_r13⟩ : ∃ z : Nat → Int32, z = (S_X10_act r1 σ β).2 := ⟨_, rfl⟩
          refine q_callV (h1 := _) (rest := []) (As := []) X (c_X10_act (l := l) hG (κ := r1) (σ := σ) (β := β)   hM (va_up_self _ _ _) ((va_up_ne _ _ (by decide)).trans (hr_37)) ((va_up_ne _ _ (by decide)).trans (hr_39)) (by subst_vars; exact hsm)) mf_X10_act mv_X10_act cf_X10 rfl (ac_9_0 hT_36) lk_X10_36 rfl ⟨by decide, by decide⟩ ⟨Nat.le_refl _, Nat.le_refl _⟩ rfl (Nat.le_of_ble_eq_true rfl) dX10_setController_103 (st2 := []) rfl ?_
          refine q_eq (h2 := va_up (va_up h 36 r12) 39 r13) (by rw [← e_r12, ← e_r13]; (funext x; simp only [va_up]; (repeat' split) <;> first | rfl | omega)) rfl ?_
          refine q_aload_n X 1 dX10_setController_106 rfl ?_
          refine q_get (fk := 1) (v := .ref (gA G 37 0)) X cf_X10 (ac_9_0 hT_36) (by decide) fl_X10_7 rfl rfl dX10_setController_107 rfl ?_
          refine q_bipush (v := 9) X dX10_setController_110 (by decide) ?_
          refine q_iload_n X 2 dX10_setController_112 rfl ?_
          obtain ⟨r14, e_r14⟩ : ∃ z : Nat → Int32, z = va_up σ 9 on := ⟨_, rfl⟩
          refine q_iast (h2 := va_up (va_up (va_up h 36 r12) 39 r13) 37 r14) X (ac_10_0 hT_37) (by rw [hT_37]; exact vin_lit (by decide)) dX10_setController_113 ((va_up_ne _ _ (by decide)).trans ((va_up_ne _ _ (by decide)).trans (hr_37))) (by rw [show 0 + 1 * Int32.toNatClampNeg 9 = 9 from rfl, e_r14]) ?_
          refine q_aload_n X 1 dX10_setController_114 rfl ?_
          refine q_get (fk := 1) (v := .ref (gA G 37 0)) X cf_X10 (ac_9_0 hT_36) (by decide) fl_X10_7 rfl rfl dX10_setController_115 rfl ?_
          refine q_bipush (v := 10) X dX10_setController_118 (by decide) ?_
          refine q_iload_n X 3 dX10_setController_120 rfl ?_
          obtain ⟨r15, e_r15⟩ : ∃ z : Nat → Int32, z = va_up r14 10 pp := ⟨_, rfl⟩
          refine q_iast (h2 := va_up (va_up (va_up h 36 r12) 39 r13) 37 r15) X (ac_10_0 hT_37) (by rw [hT_37]; exact vin_lit (by decide)) dX10_setController_121 (va_up_self _ _ _) (by rw [show 0 + 1 * Int32.toNatClampNeg 10 = 10 from rfl, e_r15, va_up_up]) ?_
          refine q_aload_n X 1 dX10_setController_122 rfl ?_
          refine q_get (fk := 1) (v := .ref (gA G 37 0)) X cf_X10 (ac_9_0 hT_36) (by decide) fl_X10_7 rfl rfl dX10_setController_123 rfl ?_
          refine q_bipush (v := 11) X dX10_setController_126 (by decide) ?_
          refine q_iload_n X 4 dX10_setController_128 rfl ?_
          obtain ⟨r16, e_r16⟩ : ∃ z : Nat → Int32, z = va_up r15 11 ii := ⟨_, rfl⟩
          refine q_iast (h2 := va_up (va_up (va_up h 36 r12) 39 r13) 37 r16) X (ac_10_0 hT_37) (by rw [hT_37]; exact vin_lit (by decide)) dX10_setController_129 (va_up_self _ _ _) (by rw [show 0 + 1 * Int32.toNatClampNeg 11 = 11 from rfl, e_r16, va_up_up]) ?_
          refine q_aload_n X 1 dX10_setController_130 rfl ?_
          refine q_get (fk := 1) (v := .ref (gA G 37 0)) X cf_X10 (ac_9_0 hT_36) (by decide) fl_X10_7 rfl rfl dX10_setController_131 rfl ?_
          refine q_bipush (v := 12) X dX10_setController_134 (by decide) ?_
          refine q_iload X 5 dX10_setController_136 rfl ?_
          obtain ⟨r17, e_r17⟩ : ∃ z : Nat → Int32, z = va_up r16 12 bi := ⟨_, rfl⟩
          refine q_iast (h2 := va_up (va_up (va_up h 36 r12) 39 r13) 37 r17) X (ac_10_0 hT_37) (by rw [hT_37]; exact vin_lit (by decide)) dX10_setController_138 (va_up_self _ _ _) (by rw [show 0 + 1 * Int32.toNatClampNeg 12 = 12 from rfl, e_r17, va_up_up]) ?_
          refine q_iload X 0 dX10_setController_139 rfl ?_
          suffices hJ20 : ∀ (m19 : Int32), m19 = (if m7 = 0 then (1) else (0)) → VV G (AA G) p l e { frames := 1, cells := 0, slots := 0, locals := 22 } s m ([.ref (gA G 36 0), .int on, .int pp, .int ii, .int bi] : List Value).toArray below meth c 0 0 (MQ below (QC G (va_up (va_up (va_up h 36 Z.2.1) 37 Z.2.2.1) 39 Z.2.2.2) (some (.int Z.1))) ([.ref (gA G 36 0), .int on, .int pp, .int ii, .int bi] : List Value).toArray s 0 0 (AA G)) 6 (va_up (va_up (va_up h 36 r12) 39 r13) 37 r17) 149 [(5, .int m7), (0, .ref (gA G 36 0)), (1, .int on), (2, .int pp), (3, .int ii), (4, .int bi)] [.int m19] by
            refine q_if_eq (tgt := 148) X dX10_setController_141 (by decide) (fun c18 => ?_) (fun c18 => ?_)
            · skip
              refine q_iconst (v := 1) X dX10_setController_148 (by decide) ?_
              refine q_sub (lv2 := [(5, .int m7), (0, .ref (gA G 36 0)), (1, .int on), (2, .int pp), (3, .int ii), (4, .int bi)]) [0, 1, 2, 3, 4, 5] rfl ?_
              exact hJ20 1 (by exact ((if_pos c18).trans rfl).symm)
            · skip
              refine q_iconst (v := 0) X dX10_setController_144 (by decide) ?_
              refine q_goto (tgt := 149) X dX10_setController_145 (by decide) ?_
              refine q_sub (lv2 := [(5, .int m7), (0, .ref (gA G 36 0)), (1, .int on), (2, .int pp), (3, .int ii), (4, .int bi)]) [0, 1, 2, 3, 4, 5] rfl ?_
              exact hJ20 0 (by exact ((if_neg c18).trans rfl).symm)
          intro m19 e_m19
          have E : Z = (m19, r12, r17, r13) := by subst e_m19; subst e_r17; subst e_r16; subst e_r15; subst e_r14; subst e_r13; subst e_r12; subst e_m7; subst e_r1; exact hZ.symm.trans ((if_neg c2).trans ((if_neg c3).trans ((if_neg c4).trans ((if_neg c5).trans rfl))))
          exact q_iret X hret dX10_setController_149 (by rw [E]) (by rw [E]; (funext x; simp only [va_up]; (repeat' split) <;> first | rfl | omega | (subst_vars; rfl) | (subst_vars; assumption)))
        · skip
          refine q_ldc X kc_X10_47 dX10_setController_47 ?_
          have E : Z = ((-100001), r1, σ, β) := by subst e_r1; exact hZ.symm.trans ((if_neg c2).trans ((if_neg c3).trans ((if_neg c4).trans ((if_pos c5).trans rfl))))
          exact q_iret X hret dX10_setController_49 (by rw [E]) (by rw [E]; (funext x; simp only [va_up]; (repeat' split) <;> first | rfl | omega | (subst_vars; rfl) | (subst_vars; assumption)))
def S_X10_setProbe (κ : Nat → Int32) (σ : Nat → Int32) (β : Nat → Int32) (la : Int32) (fo : Int32) : Int32 × (Nat → Int32) × (Nat → Int32) × (Nat → Int32) := let r1 : Nat → Int32 := va_up κ 0 0; if (S_X10_in la 1 60) = 0 then (((-100001), r1, σ, β)) else (if (S_X10_in fo 0 5) = 0 then (((-100001), r1, σ, β)) else (let r4 : Nat → Int32 := (S_X10_put r1 σ β 5 la).2.1; let r5 : Nat → Int32 := (S_X10_put r1 σ β 5 la).2.2.1; let r6 : Nat → Int32 := (S_X10_put r1 σ β 5 la).2.2.2; let r7 : Nat → Int32 := va_up r5 6 fo; ((S_X10_put r1 σ β 5 la).1, r4, r7, r6)))
set_option maxRecDepth 100000 in
set_option maxHeartbeats 4000000 in
theorem c_X10_setProbe {G : Geo} {l : Launch} (hG : GOK G) {h : Hp} {κ : Nat → Int32} {σ : Nat → Int32} {β : Nat → Int32} (la : Int32) (fo : Int32) (hM : MT G) (hr_36 : h 36 = κ) (hr_37 : h 37 = σ) (hr_39 : h 39 = β) (hsm : 0 ≤ (κ 1).toInt ∧ (κ 1).toInt ≤ 5) : CM G l yX10_setProbe cX10_setProbe 4 (some .int) 2 44 [.ref (gA G 36 0), .int la, .int fo] h (va_up (va_up (va_up h 36 ((S_X10_setProbe κ σ β la fo).2.1)) 37 ((S_X10_setProbe κ σ β la fo).2.2.1)) 39 ((S_X10_setProbe κ σ β la fo).2.2.2)) (some (.int ((S_X10_setProbe κ σ β la fo).1))) := by
  obtain ⟨Z, hZ⟩ : ∃ Z, S_X10_setProbe κ σ β la fo = Z := ⟨_, rfl⟩
  rw [hZ]
  refine q_enter hG mf_X10_setProbe (Nat.le_of_ble_eq_true rfl) ?_
  intro p e s m below meth c X hret
  have hT_36 : gT G 36 = 9 := hM 36 (by decide) (by decide)
  have hT_37 : gT G 37 = 10 := hM 37 (by decide) (by decide)
  have hT_39 : gT G 39 = 11 := hM 39 (by decide) (by decide)
  refine q_lv (lv2 := [(0, .ref (gA G 36 0)), (1, .int la), (2, .int fo)]) rfl ?_
  refine q_aload_n X 0 dX10_setProbe_0 rfl ?_
  refine q_iconst (v := 0) X dX10_setProbe_1 (by decide) ?_
  obtain ⟨r1, e_r1⟩ : ∃ z : Nat → Int32, z = va_up κ 0 0 := ⟨_, rfl⟩
  refine q_put (fk := 0) (h2 := va_up h 36 r1) X cf_X10 (ac_9_0 hT_36) (by decide) fl_X10_25 rfl rfl (by rw [hT_36]; rfl) rfl rfl rfl dX10_setProbe_2 (hr_36) (by rw [e_r1]) ?_
  refine q_iload_n X 1 dX10_setProbe_5 rfl ?_
  refine q_iconst (v := 1) X dX10_setProbe_6 (by decide) ?_
  refine q_bipush (v := 60) X dX10_setProbe_7 (by decide) ?_
  refine q_callS (h1 := _) (rest := []) (As := [.int la, .int 1, .int 60]) X (c_X10_in (l := l) hG   la 1 60 ) mf_X10_in ms_X10_in lk_X10_39 rfl ⟨by decide, by decide⟩ ⟨Nat.le_refl _, Nat.le_refl _⟩ rfl (Nat.le_of_ble_eq_true rfl) dX10_setProbe_9 (st2 := [.int (S_X10_in la 1 60)]) rfl ?_
  refine q_if_eq (tgt := 24) X dX10_setProbe_12 (by decide) (fun c2 => ?_) (fun c2 => ?_)
  · skip
    refine q_ldc X kc_X10_47 dX10_setProbe_24 ?_
    have E : Z = ((-100001), r1, σ, β) := by subst e_r1; exact hZ.symm.trans ((if_pos c2).trans rfl)
    exact q_iret X hret dX10_setProbe_26 (by rw [E]) (by rw [E]; (funext x; simp only [va_up]; (repeat' split) <;> first | rfl | omega | (subst_vars; rfl) | (subst_vars; assumption)))
  · skip
    refine q_iload_n X 2 dX10_setProbe_15 rfl ?_
    refine q_iconst (v := 0) X dX10_setProbe_16 (by decide) ?_
    refine q_iconst (v := 5) X dX10_setProbe_17 (by decide) ?_
    refine q_callS (h1 := _) (rest := []) (As := [.int fo, .int 0, .int 5]) X (c_X10_in (l := l) hG   fo 0 5 ) mf_X10_in ms_X10_in lk_X10_39 rfl ⟨by decide, by decide⟩ ⟨Nat.le_refl _, Nat.le_refl _⟩ rfl (Nat.le_of_ble_eq_true rfl) dX10_setProbe_18 (st2 := [.int (S_X10_in fo 0 5)]) rfl ?_
    refine q_if_ne (tgt := 27) X dX10_setProbe_21 (by decide) (fun c3 => ?_) (fun c3 => ?_)
    · skip
      refine q_aload_n X 0 dX10_setProbe_27 rfl ?_
      refine q_iconst (v := 5) X dX10_setProbe_28 (by decide) ?_
      refine q_iload_n X 1 dX10_setProbe_29 rfl ?_
      obtain ⟨r4, e_r4⟩ : ∃ z : Nat → Int32, z = (S_X10_put r1 σ β 5 la).2.1 := ⟨_, rfl⟩
      obtain ⟨r5, e_r5⟩ : ∃ z : Nat → Int32, z = (S_X10_put r1 σ β 5 la).2.2.1 := ⟨_, rfl⟩
      obtain ⟨r6, e_r6⟩ : ∃ z : Nat → Int32, z = (S_X10_put r1 σ β 5 la).2.2.2 := ⟨_, rfl⟩
      refine q_callV (h1 := _) (rest := []) (As := [.int 5, .int la]) X (c_X10_put (l := l) hG (κ := r1) (σ := σ) (β := β)  5 la hM (va_up_self _ _ _) ((va_up_ne _ _ (by decide)).trans (hr_37)) ((va_up_ne _ _ (by decide)).trans (hr_39)) (by subst_vars; exact hsm) (vin_lit (by decide))) mf_X10_put mv_X10_put cf_X10 rfl (ac_9_0 hT_36) lk_X10_43 rfl ⟨by decide, by decide⟩ ⟨Nat.le_refl _, Nat.le_refl _⟩ rfl (Nat.le_of_ble_eq_true rfl) dX10_setProbe_30 (st2 := [.int ((S_X10_put r1 σ β 5 la).1)]) rfl ?_
      refine q_eq (h2 := va_up (va_up (va_up h 36 r4) 37 r5) 39 r6) (by rw [← e_r4, ← e_r5, ← e_r6]; (funext x; simp only [va_up]; (repeat' split) <;> first | rfl | omega)) rfl ?_
      refine q_istore_n (lv' := [(3, .int ((S_X10_put r1 σ β 5 la).1)), (0, .ref (gA G 36 0)), (1, .int la), (2, .int fo)]) X dX10_setProbe_33 (by decide) rfl ?_
      refine q_aload_n X 1 dX10_setProbe_34 rfl ?_
      refine q_get (fk := 1) (v := .ref (gA G 37 0)) X cf_X10 (ac_9_0 hT_36) (by decide) fl_X10_7 rfl rfl dX10_setProbe_35 rfl ?_
      refine q_bipush (v := 6) X dX10_setProbe_38 (by decide) ?_
      refine q_iload_n X 3 dX10_setProbe_40 rfl ?_
      obtain ⟨r7, e_r7⟩ : ∃ z : Nat → Int32, z = va_up r5 6 fo := ⟨_, rfl⟩
      refine q_iast (h2 := va_up (va_up (va_up h 36 r4) 39 r6) 37 r7) X (ac_10_0 hT_37) (by rw [hT_37]; exact vin_lit (by decide)) dX10_setProbe_41 ((va_up_ne _ _ (by decide)).trans (va_up_self _ _ _)) (by rw [show 0 + 1 * Int32.toNatClampNeg 6 = 6 from rfl, ← e_r7]; funext x; simp only [va_up]; (repeat' split) <;> first | rfl | omega) ?_
      refine q_iload_n X 0 dX10_setProbe_42 rfl ?_
      have E : Z = ((S_X10_put r1 σ β 5 la).1, r4, r7, r6) := by subst e_r7; subst e_r6; subst e_r5; subst e_r4; subst e_r1; exact hZ.symm.trans ((if_neg c2).trans ((if_neg c3).trans rfl))
      exact q_iret X hret dX10_setProbe_43 (by rw [E]) (by rw [E]; (funext x; simp only [va_up]; (repeat' split) <;> first | rfl | omega | (subst_vars; rfl) | (subst_vars; assumption)))
    · skip
      refine q_ldc X kc_X10_47 dX10_setProbe_24 ?_
      have E : Z = ((-100001), r1, σ, β) := by subst e_r1; exact hZ.symm.trans ((if_neg c2).trans ((if_pos c3).trans rfl))
      exact q_iret X hret dX10_setProbe_26 (by rw [E]) (by rw [E]; (funext x; simp only [va_up]; (repeat' split) <;> first | rfl | omega | (subst_vars; rfl) | (subst_vars; assumption)))
def S_X10_setCrack (κ : Nat → Int32) (σ : Nat → Int32) (β : Nat → Int32) (te : Int32) (th : Int32) : Int32 × (Nat → Int32) × (Nat → Int32) × (Nat → Int32) := let r1 : Nat → Int32 := va_up κ 0 0; if (S_X10_in te 1500 2300) = 0 then (((-100001), r1, σ, β)) else (if (S_X10_in th 1 600) = 0 then (((-100001), r1, σ, β)) else (let m5 : Int32 := if (σ 14) = te then (if (σ 15) = th then (1) else (0)) else (0); let r8 : Nat → Int32 := (S_X10_act r1 σ β).1; let r9 : Nat → Int32 := (S_X10_act r1 σ β).2; let r10 : Nat → Int32 := va_up σ 14 te; let r11 : Nat → Int32 := va_up r10 15 th; let m13 : Int32 := if m5 = 0 then (1) else (0); (m13, r8, r11, r9)))
set_option maxRecDepth 100000 in
set_option maxHeartbeats 4000000 in
theorem c_X10_setCrack {G : Geo} {l : Launch} (hG : GOK G) {h : Hp} {κ : Nat → Int32} {σ : Nat → Int32} {β : Nat → Int32} (te : Int32) (th : Int32) (hM : MT G) (hr_36 : h 36 = κ) (hr_37 : h 37 = σ) (hr_39 : h 39 = β) (hsm : 0 ≤ (κ 1).toInt ∧ (κ 1).toInt ≤ 5) : CM G l yX10_setCrack cX10_setCrack 4 (some .int) 1 22 [.ref (gA G 36 0), .int te, .int th] h (va_up (va_up (va_up h 36 ((S_X10_setCrack κ σ β te th).2.1)) 37 ((S_X10_setCrack κ σ β te th).2.2.1)) 39 ((S_X10_setCrack κ σ β te th).2.2.2)) (some (.int ((S_X10_setCrack κ σ β te th).1))) := by
  obtain ⟨Z, hZ⟩ : ∃ Z, S_X10_setCrack κ σ β te th = Z := ⟨_, rfl⟩
  rw [hZ]
  refine q_enter hG mf_X10_setCrack (Nat.le_of_ble_eq_true rfl) ?_
  intro p e s m below meth c X hret
  have hT_36 : gT G 36 = 9 := hM 36 (by decide) (by decide)
  have hT_37 : gT G 37 = 10 := hM 37 (by decide) (by decide)
  have hT_39 : gT G 39 = 11 := hM 39 (by decide) (by decide)
  refine q_lv (lv2 := [(0, .ref (gA G 36 0)), (1, .int te), (2, .int th)]) rfl ?_
  refine q_aload_n X 0 dX10_setCrack_0 rfl ?_
  refine q_iconst (v := 0) X dX10_setCrack_1 (by decide) ?_
  obtain ⟨r1, e_r1⟩ : ∃ z : Nat → Int32, z = va_up κ 0 0 := ⟨_, rfl⟩
  refine q_put (fk := 0) (h2 := va_up h 36 r1) X cf_X10 (ac_9_0 hT_36) (by decide) fl_X10_25 rfl rfl (by rw [hT_36]; rfl) rfl rfl rfl dX10_setCrack_2 (hr_36) (by rw [e_r1]) ?_
  refine q_iload_n X 1 dX10_setCrack_5 rfl ?_
  refine q_sipush (v := 1500) X dX10_setCrack_6 (by decide) ?_
  refine q_sipush (v := 2300) X dX10_setCrack_9 (by decide) ?_
  refine q_callS (h1 := _) (rest := []) (As := [.int te, .int 1500, .int 2300]) X (c_X10_in (l := l) hG   te 1500 2300 ) mf_X10_in ms_X10_in lk_X10_39 rfl ⟨by decide, by decide⟩ ⟨Nat.le_refl _, Nat.le_refl _⟩ rfl (Nat.le_of_ble_eq_true rfl) dX10_setCrack_12 (st2 := [.int (S_X10_in te 1500 2300)]) rfl ?_
  refine q_if_eq (tgt := 29) X dX10_setCrack_15 (by decide) (fun c2 => ?_) (fun c2 => ?_)
  · skip
    refine q_ldc X kc_X10_47 dX10_setCrack_29 ?_
    have E : Z = ((-100001), r1, σ, β) := by subst e_r1; exact hZ.symm.trans ((if_pos c2).trans rfl)
    exact q_iret X hret dX10_setCrack_31 (by rw [E]) (by rw [E]; (funext x; simp only [va_up]; (repeat' split) <;> first | rfl | omega | (subst_vars; rfl) | (subst_vars; assumption)))
  · skip
    refine q_iload_n X 2 dX10_setCrack_18 rfl ?_
    refine q_iconst (v := 1) X dX10_setCrack_19 (by decide) ?_
    refine q_sipush (v := 600) X dX10_setCrack_20 (by decide) ?_
    refine q_callS (h1 := _) (rest := []) (As := [.int th, .int 1, .int 600]) X (c_X10_in (l := l) hG   th 1 600 ) mf_X10_in ms_X10_in lk_X10_39 rfl ⟨by decide, by decide⟩ ⟨Nat.le_refl _, Nat.le_refl _⟩ rfl (Nat.le_of_ble_eq_true rfl) dX10_setCrack_23 (st2 := [.int (S_X10_in th 1 600)]) rfl ?_
    refine q_if_ne (tgt := 32) X dX10_setCrack_26 (by decide) (fun c3 => ?_) (fun c3 => ?_)
    · skip
      refine q_aload_n X 0 dX10_setCrack_32 rfl ?_
      refine q_get (fk := 1) (v := .ref (gA G 37 0)) X cf_X10 (ac_9_0 hT_36) (by decide) fl_X10_7 rfl rfl dX10_setCrack_33 rfl ?_
      refine q_bipush (v := 14) X dX10_setCrack_36 (by decide) ?_
      refine q_iald (x := σ 14) X (ac_10_0 hT_37) (by rw [hT_37]; exact vin_lit (by decide)) dX10_setCrack_38 ((va_up_ne _ _ (by decide)).trans (hr_37)) rfl ?_
      refine q_iload_n X 1 dX10_setCrack_39 rfl ?_
      suffices hJ7 : ∀ (m5 : Int32), m5 = (if (σ 14) = te then (if (σ 15) = th then (1) else (0)) else (0)) → VV G (AA G) p l e { frames := 1, cells := 0, slots := 0, locals := 22 } s m ([.ref (gA G 36 0), .int te, .int th] : List Value).toArray below meth c 0 0 (MQ below (QC G (va_up (va_up (va_up h 36 Z.2.1) 37 Z.2.2.1) 39 Z.2.2.2) (some (.int Z.1))) ([.ref (gA G 36 0), .int te, .int th] : List Value).toArray s 0 0 (AA G)) 4 (va_up h 36 r1) 59 [(0, .ref (gA G 36 0)), (1, .int te), (2, .int th)] [.int m5] by
        refine q_icmp_ne (tgt := 58) X dX10_setCrack_40 (by decide) (fun c4 => ?_) (fun c4 => ?_)
        · skip
          refine q_iconst (v := 0) X dX10_setCrack_58 (by decide) ?_
          refine q_sub (lv2 := [(0, .ref (gA G 36 0)), (1, .int te), (2, .int th)]) [0, 1, 2] rfl ?_
          exact hJ7 0 (by exact ((if_neg c4).trans rfl).symm)
        · skip
          refine q_aload_n X 0 dX10_setCrack_43 rfl ?_
          refine q_get (fk := 1) (v := .ref (gA G 37 0)) X cf_X10 (ac_9_0 hT_36) (by decide) fl_X10_7 rfl rfl dX10_setCrack_44 rfl ?_
          refine q_bipush (v := 15) X dX10_setCrack_47 (by decide) ?_
          refine q_iald (x := σ 15) X (ac_10_0 hT_37) (by rw [hT_37]; exact vin_lit (by decide)) dX10_setCrack_49 ((va_up_ne _ _ (by decide)).trans (hr_37)) rfl ?_
          refine q_iload_n X 2 dX10_setCrack_50 rfl ?_
          refine q_icmp_ne (tgt := 58) X dX10_setCrack_51 (by decide) (fun c6 => ?_) (fun c6 => ?_)
          · skip
            refine q_iconst (v := 0) X dX10_setCrack_58 (by decide) ?_
            refine q_sub (lv2 := [(0, .ref (gA G 36 0)), (1, .int te), (2, .int th)]) [0, 1, 2] rfl ?_
            exact hJ7 0 (by exact ((if_pos c4).trans ((if_neg c6).trans rfl)).symm)
          · skip
            refine q_iconst (v := 1) X dX10_setCrack_54 (by decide) ?_
            refine q_goto (tgt := 59) X dX10_setCrack_55 (by decide) ?_
            refine q_sub (lv2 := [(0, .ref (gA G 36 0)), (1, .int te), (2, .int th)]) [0, 1, 2] rfl ?_
            exact hJ7 1 (by exact ((if_pos c4).trans ((if_pos c6).trans rfl)).symm)
      intro m5 e_m5
      refine q_istore_n (lv' := [(3, .int m5), (0, .ref (gA G 36 0)), (1, .int te), (2, .int th)]) X dX10_setCrack_59 (by decide) rfl ?_
      refine q_aload_n X 1 dX10_setCrack_60 rfl ?_
      obtain ⟨r8, e_r8⟩ : ∃ z : Nat → Int32, z = (S_X10_act r1 σ β).1 := ⟨_, rfl⟩
      obtain ⟨r9, e_r9⟩ : ∃ z : Nat → Int32, z = (S_X10_act r1 σ β).2 := ⟨_, rfl⟩
      refine q_callV (h1 := _) (rest := []) (As := []) X (c_X10_act (l := l) hG (κ := r1) (σ := σ) (β := β)   hM (va_up_self _ _ _) ((va_up_ne _ _ (by decide)).trans (hr_37)) ((va_up_ne _ _ (by decide)).trans (hr_39)) (by subst_vars; exact hsm)) mf_X10_act mv_X10_act cf_X10 rfl (ac_9_0 hT_36) lk_X10_36 rfl ⟨by decide, by decide⟩ ⟨Nat.le_refl _, Nat.le_refl _⟩ rfl (Nat.le_of_ble_eq_true rfl) dX10_setCrack_61 (st2 := []) rfl ?_
      refine q_eq (h2 := va_up (va_up h 36 r8) 39 r9) (by rw [← e_r8, ← e_r9]; (funext x; simp only [va_up]; (repeat' split) <;> first | rfl | omega)) rfl ?_
      refine q_aload_n X 1 dX10_setCrack_64 rfl ?_
      refine q_get (fk := 1) (v := .ref (gA G 37 0)) X cf_X10 (ac_9_0 hT_36) (by decide) fl_X10_7 rfl rfl dX10_setCrack_65 rfl ?_
      refine q_bipush (v := 14) X dX10_setCrack_68 (by decide) ?_
      refine q_iload_n X 2 dX10_setCrack_70 rfl ?_
      obtain ⟨r10, e_r10⟩ : ∃ z : Nat → Int32, z = va_up σ 14 te := ⟨_, rfl⟩
      refine q_iast (h2 := va_up (va_up (va_up h 36 r8) 39 r9) 37 r10) X (ac_10_0 hT_37) (by rw [hT_37]; exact vin_lit (by decide)) dX10_setCrack_71 ((va_up_ne _ _ (by decide)).trans ((va_up_ne _ _ (by decide)).trans (hr_37))) (by rw [show 0 + 1 * Int32.toNatClampNeg 14 = 14 from rfl, e_r10]) ?_
      refine q_aload_n X 1 dX10_setCrack_72 rfl ?_
      refine q_get (fk := 1) (v := .ref (gA G 37 0)) X cf_X10 (ac_9_0 hT_36) (by decide) fl_X10_7 rfl rfl dX10_setCrack_73 rfl ?_
      refine q_bipush (v := 15) X dX10_setCrack_76 (by decide) ?_
      refine q_iload_n X 3 dX10_setCrack_78 rfl ?_
      obtain ⟨r11, e_r11⟩ : ∃ z : Nat → Int32, z = va_up r10 15 th := ⟨_, rfl⟩
      refine q_iast (h2 := va_up (va_up (va_up h 36 r8) 39 r9) 37 r11) X (ac_10_0 hT_37) (by rw [hT_37]; exact vin_lit (by decide)) dX10_setCrack_79 (va_up_self _ _ _) (by rw [show 0 + 1 * Int32.toNatClampNeg 15 = 15 from rfl, e_r11, va_up_up]) ?_
      refine q_iload_n X 0 dX10_setCrack_80 rfl ?_
      suffices hJ14 : ∀ (m13 : Int32), m13 = (if m5 = 0 then (1) else (0)) → VV G (AA G) p l e { frames := 1, cells := 0, slots := 0, locals := 22 } s m ([.ref (gA G 36 0), .int te, .int th] : List Value).toArray below meth c 0 0 (MQ below (QC G (va_up (va_up (va_up h 36 Z.2.1) 37 Z.2.2.1) 39 Z.2.2.2) (some (.int Z.1))) ([.ref (gA G 36 0), .int te, .int th] : List Value).toArray s 0 0 (AA G)) 4 (va_up (va_up (va_up h 36 r8) 39 r9) 37 r11) 89 [(3, .int m5), (0, .ref (gA G 36 0)), (1, .int te), (2, .int th)] [.int m13] by
        refine q_if_eq (tgt := 88) X dX10_setCrack_81 (by decide) (fun c12 => ?_) (fun c12 => ?_)
        · skip
          refine q_iconst (v := 1) X dX10_setCrack_88 (by decide) ?_
          refine q_sub (lv2 := [(3, .int m5), (0, .ref (gA G 36 0)), (1, .int te), (2, .int th)]) [0, 1, 2, 3] rfl ?_
          exact hJ14 1 (by exact ((if_pos c12).trans rfl).symm)
        · skip
          refine q_iconst (v := 0) X dX10_setCrack_84 (by decide) ?_
          refine q_goto (tgt := 89) X dX10_setCrack_85 (by decide) ?_
          refine q_sub (lv2 := [(3, .int m5), (0, .ref (gA G 36 0)), (1, .int te), (2, .int th)]) [0, 1, 2, 3] rfl ?_
          exact hJ14 0 (by exact ((if_neg c12).trans rfl).symm)
      intro m13 e_m13
      have E : Z = (m13, r8, r11, r9) := by subst e_m13; subst e_r11; subst e_r10; subst e_r9; subst e_r8; subst e_m5; subst e_r1; exact hZ.symm.trans ((if_neg c2).trans ((if_neg c3).trans rfl))
      exact q_iret X hret dX10_setCrack_89 (by rw [E]) (by rw [E]; (funext x; simp only [va_up]; (repeat' split) <;> first | rfl | omega | (subst_vars; rfl) | (subst_vars; assumption)))
    · skip
      refine q_ldc X kc_X10_47 dX10_setCrack_29 ?_
      have E : Z = ((-100001), r1, σ, β) := by subst e_r1; exact hZ.symm.trans ((if_neg c2).trans ((if_pos c3).trans rfl))
      exact q_iret X hret dX10_setCrack_31 (by rw [E]) (by rw [E]; (funext x; simp only [va_up]; (repeat' split) <;> first | rfl | omega | (subst_vars; rfl) | (subst_vars; assumption)))
def S_X10_setFan (κ : Nat → Int32) (σ : Nat → Int32) (β : Nat → Int32) (fa : Int32) : Int32 × (Nat → Int32) × (Nat → Int32) × (Nat → Int32) := let r1 : Nat → Int32 := va_up κ 0 0; if (S_X10_in fa 1 50) = 0 then (((-100001), r1, σ, β)) else (let r3 : Nat → Int32 := (S_X10_put r1 σ β 8 fa).2.1; let r4 : Nat → Int32 := (S_X10_put r1 σ β 8 fa).2.2.1; let r5 : Nat → Int32 := (S_X10_put r1 σ β 8 fa).2.2.2; ((S_X10_put r1 σ β 8 fa).1, r3, r4, r5))
set_option maxRecDepth 100000 in
set_option maxHeartbeats 4000000 in
theorem c_X10_setFan {G : Geo} {l : Launch} (hG : GOK G) {h : Hp} {κ : Nat → Int32} {σ : Nat → Int32} {β : Nat → Int32} (fa : Int32) (hM : MT G) (hr_36 : h 36 = κ) (hr_37 : h 37 = σ) (hr_39 : h 39 = β) (hsm : 0 ≤ (κ 1).toInt ∧ (κ 1).toInt ≤ 5) : CM G l yX10_setFan cX10_setFan 2 (some .int) 2 44 [.ref (gA G 36 0), .int fa] h (va_up (va_up (va_up h 36 ((S_X10_setFan κ σ β fa).2.1)) 37 ((S_X10_setFan κ σ β fa).2.2.1)) 39 ((S_X10_setFan κ σ β fa).2.2.2)) (some (.int ((S_X10_setFan κ σ β fa).1))) := by
  obtain ⟨Z, hZ⟩ : ∃ Z, S_X10_setFan κ σ β fa = Z := ⟨_, rfl⟩
  rw [hZ]
  refine q_enter hG mf_X10_setFan (Nat.le_of_ble_eq_true rfl) ?_
  intro p e s m below meth c X hret
  have hT_36 : gT G 36 = 9 := hM 36 (by decide) (by decide)
  have hT_37 : gT G 37 = 10 := hM 37 (by decide) (by decide)
  have hT_39 : gT G 39 = 11 := hM 39 (by decide) (by decide)
  refine q_lv (lv2 := [(0, .ref (gA G 36 0)), (1, .int fa)]) rfl ?_
  refine q_aload_n X 0 dX10_setFan_0 rfl ?_
  refine q_iconst (v := 0) X dX10_setFan_1 (by decide) ?_
  obtain ⟨r1, e_r1⟩ : ∃ z : Nat → Int32, z = va_up κ 0 0 := ⟨_, rfl⟩
  refine q_put (fk := 0) (h2 := va_up h 36 r1) X cf_X10 (ac_9_0 hT_36) (by decide) fl_X10_25 rfl rfl (by rw [hT_36]; rfl) rfl rfl rfl dX10_setFan_2 (hr_36) (by rw [e_r1]) ?_
  refine q_iload_n X 1 dX10_setFan_5 rfl ?_
  refine q_iconst (v := 1) X dX10_setFan_6 (by decide) ?_
  refine q_bipush (v := 50) X dX10_setFan_7 (by decide) ?_
  refine q_callS (h1 := _) (rest := []) (As := [.int fa, .int 1, .int 50]) X (c_X10_in (l := l) hG   fa 1 50 ) mf_X10_in ms_X10_in lk_X10_39 rfl ⟨by decide, by decide⟩ ⟨Nat.le_refl _, Nat.le_refl _⟩ rfl (Nat.le_of_ble_eq_true rfl) dX10_setFan_9 (st2 := [.int (S_X10_in fa 1 50)]) rfl ?_
  refine q_if_eq (tgt := 25) X dX10_setFan_12 (by decide) (fun c2 => ?_) (fun c2 => ?_)
  · skip
    refine q_ldc X kc_X10_47 dX10_setFan_25 ?_
    have E : Z = ((-100001), r1, σ, β) := by subst e_r1; exact hZ.symm.trans ((if_pos c2).trans rfl)
    exact q_iret X hret dX10_setFan_27 (by rw [E]) (by rw [E]; (funext x; simp only [va_up]; (repeat' split) <;> first | rfl | omega | (subst_vars; rfl) | (subst_vars; assumption)))
  · skip
    refine q_aload_n X 0 dX10_setFan_15 rfl ?_
    refine q_bipush (v := 8) X dX10_setFan_16 (by decide) ?_
    refine q_iload_n X 1 dX10_setFan_18 rfl ?_
    obtain ⟨r3, e_r3⟩ : ∃ z : Nat → Int32, z = (S_X10_put r1 σ β 8 fa).2.1 := ⟨_, rfl⟩
    obtain ⟨r4, e_r4⟩ : ∃ z : Nat → Int32, z = (S_X10_put r1 σ β 8 fa).2.2.1 := ⟨_, rfl⟩
    obtain ⟨r5, e_r5⟩ : ∃ z : Nat → Int32, z = (S_X10_put r1 σ β 8 fa).2.2.2 := ⟨_, rfl⟩
    refine q_callV (h1 := _) (rest := []) (As := [.int 8, .int fa]) X (c_X10_put (l := l) hG (κ := r1) (σ := σ) (β := β)  8 fa hM (va_up_self _ _ _) ((va_up_ne _ _ (by decide)).trans (hr_37)) ((va_up_ne _ _ (by decide)).trans (hr_39)) (by subst_vars; exact hsm) (vin_lit (by decide))) mf_X10_put mv_X10_put cf_X10 rfl (ac_9_0 hT_36) lk_X10_43 rfl ⟨by decide, by decide⟩ ⟨Nat.le_refl _, Nat.le_refl _⟩ rfl (Nat.le_of_ble_eq_true rfl) dX10_setFan_19 (st2 := [.int ((S_X10_put r1 σ β 8 fa).1)]) rfl ?_
    refine q_eq (h2 := va_up (va_up (va_up h 36 r3) 37 r4) 39 r5) (by rw [← e_r3, ← e_r4, ← e_r5]; (funext x; simp only [va_up]; (repeat' split) <;> first | rfl | omega)) rfl ?_
    refine q_goto (tgt := 27) X dX10_setFan_22 (by decide) ?_
    have E : Z = ((S_X10_put r1 σ β 8 fa).1, r3, r4, r5) := by subst e_r5; subst e_r4; subst e_r3; subst e_r1; exact hZ.symm.trans ((if_neg c2).trans rfl)
    exact q_iret X hret dX10_setFan_27 (by rw [E]) (by rw [E])
def S_X10_setPoint (κ : Nat → Int32) (σ : Nat → Int32) (β : Nat → Int32) (ti : Int32) (te : Int32) : Int32 × (Nat → Int32) × (Nat → Int32) × (Nat → Int32) := let r1 : Nat → Int32 := va_up κ 0 0; if (S_X10_in ti 0 400) = 0 then (((-100001), r1, σ, β)) else (if (S_X10_in te 0 3000) = 0 then (((-100001), r1, σ, β)) else (if (S_X10_isAt σ 33 (σ 32) (S_X10_place σ 33 (σ 32) ti) ti) = 0 then (if (σ 32) = 8 then (((-100003), r1, σ, β)) else (let r9 : Nat → Int32 := (S_X10_act r1 σ β).1; let r10 : Nat → Int32 := (S_X10_act r1 σ β).2; let r11 : Nat → Int32 := S_X10_insert_P σ ti te; (r11 32, r9, r11, r10))) else (let r5 : Nat → Int32 := (S_X10_act r1 σ β).1; let r6 : Nat → Int32 := (S_X10_act r1 σ β).2; let r7 : Nat → Int32 := S_X10_insert_P σ ti te; (r7 32, r5, r7, r6))))
set_option maxRecDepth 100000 in
set_option maxHeartbeats 4000000 in
theorem c_X10_setPoint {G : Geo} {l : Launch} (hG : GOK G) {h : Hp} {κ : Nat → Int32} {σ : Nat → Int32} {β : Nat → Int32} (ti : Int32) (te : Int32) (hM : MT G) (hr_36 : h 36 = κ) (hr_37 : h 37 = σ) (hr_39 : h 39 = β) (hsm : 0 ≤ (κ 1).toInt ∧ (κ 1).toInt ≤ 5) (hI : MI σ) : CM G l yX10_setPoint cX10_setPoint 4 (some .int) 2 50 [.ref (gA G 36 0), .int ti, .int te] h (va_up (va_up (va_up h 36 ((S_X10_setPoint κ σ β ti te).2.1)) 37 ((S_X10_setPoint κ σ β ti te).2.2.1)) 39 ((S_X10_setPoint κ σ β ti te).2.2.2)) (some (.int ((S_X10_setPoint κ σ β ti te).1))) := by
  obtain ⟨Z, hZ⟩ : ∃ Z, S_X10_setPoint κ σ β ti te = Z := ⟨_, rfl⟩
  rw [hZ]
  refine q_enter hG mf_X10_setPoint (Nat.le_of_ble_eq_true rfl) ?_
  intro p e s m below meth c X hret
  have hT_36 : gT G 36 = 9 := hM 36 (by decide) (by decide)
  have hT_37 : gT G 37 = 10 := hM 37 (by decide) (by decide)
  have hT_39 : gT G 39 = 11 := hM 39 (by decide) (by decide)
  refine q_lv (lv2 := [(0, .ref (gA G 36 0)), (1, .int ti), (2, .int te)]) rfl ?_
  refine q_aload_n X 0 dX10_setPoint_0 rfl ?_
  refine q_iconst (v := 0) X dX10_setPoint_1 (by decide) ?_
  obtain ⟨r1, e_r1⟩ : ∃ z : Nat → Int32, z = va_up κ 0 0 := ⟨_, rfl⟩
  refine q_put (fk := 0) (h2 := va_up h 36 r1) X cf_X10 (ac_9_0 hT_36) (by decide) fl_X10_25 rfl rfl (by rw [hT_36]; rfl) rfl rfl rfl dX10_setPoint_2 (hr_36) (by rw [e_r1]) ?_
  refine q_iload_n X 1 dX10_setPoint_5 rfl ?_
  refine q_iconst (v := 0) X dX10_setPoint_6 (by decide) ?_
  refine q_sipush (v := 400) X dX10_setPoint_7 (by decide) ?_
  refine q_callS (h1 := _) (rest := []) (As := [.int ti, .int 0, .int 400]) X (c_X10_in (l := l) hG   ti 0 400 ) mf_X10_in ms_X10_in lk_X10_39 rfl ⟨by decide, by decide⟩ ⟨Nat.le_refl _, Nat.le_refl _⟩ rfl (Nat.le_of_ble_eq_true rfl) dX10_setPoint_10 (st2 := [.int (S_X10_in ti 0 400)]) rfl ?_
  refine q_if_eq (tgt := 27) X dX10_setPoint_13 (by decide) (fun c2 => ?_) (fun c2 => ?_)
  · skip
    refine q_ldc X kc_X10_47 dX10_setPoint_27 ?_
    have E : Z = ((-100001), r1, σ, β) := by subst e_r1; exact hZ.symm.trans ((if_pos c2).trans rfl)
    exact q_iret X hret dX10_setPoint_29 (by rw [E]) (by rw [E]; (funext x; simp only [va_up]; (repeat' split) <;> first | rfl | omega | (subst_vars; rfl) | (subst_vars; assumption)))
  · skip
    refine q_iload_n X 2 dX10_setPoint_16 rfl ?_
    refine q_iconst (v := 0) X dX10_setPoint_17 (by decide) ?_
    refine q_sipush (v := 3000) X dX10_setPoint_18 (by decide) ?_
    refine q_callS (h1 := _) (rest := []) (As := [.int te, .int 0, .int 3000]) X (c_X10_in (l := l) hG   te 0 3000 ) mf_X10_in ms_X10_in lk_X10_39 rfl ⟨by decide, by decide⟩ ⟨Nat.le_refl _, Nat.le_refl _⟩ rfl (Nat.le_of_ble_eq_true rfl) dX10_setPoint_21 (st2 := [.int (S_X10_in te 0 3000)]) rfl ?_
    refine q_if_ne (tgt := 30) X dX10_setPoint_24 (by decide) (fun c3 => ?_) (fun c3 => ?_)
    · skip
      refine q_aload_n X 0 dX10_setPoint_30 rfl ?_
      refine q_bipush (v := 33) X dX10_setPoint_31 (by decide) ?_
      refine q_aload_n X 0 dX10_setPoint_33 rfl ?_
      refine q_get (fk := 1) (v := .ref (gA G 37 0)) X cf_X10 (ac_9_0 hT_36) (by decide) fl_X10_7 rfl rfl dX10_setPoint_34 rfl ?_
      refine q_bipush (v := 32) X dX10_setPoint_37 (by decide) ?_
      refine q_iald (x := σ 32) X (ac_10_0 hT_37) (by rw [hT_37]; exact vin_lit (by decide)) dX10_setPoint_39 ((va_up_ne _ _ (by decide)).trans (hr_37)) rfl ?_
      refine q_aload_n X 0 dX10_setPoint_40 rfl ?_
      refine q_bipush (v := 33) X dX10_setPoint_41 (by decide) ?_
      refine q_aload_n X 0 dX10_setPoint_43 rfl ?_
      refine q_get (fk := 1) (v := .ref (gA G 37 0)) X cf_X10 (ac_9_0 hT_36) (by decide) fl_X10_7 rfl rfl dX10_setPoint_44 rfl ?_
      refine q_bipush (v := 32) X dX10_setPoint_47 (by decide) ?_
      refine q_iald (x := σ 32) X (ac_10_0 hT_37) (by rw [hT_37]; exact vin_lit (by decide)) dX10_setPoint_49 ((va_up_ne _ _ (by decide)).trans (hr_37)) rfl ?_
      refine q_iload_n X 1 dX10_setPoint_50 rfl ?_
      refine q_callV (h1 := _) (rest := [.int (σ 32), .int 33, .ref (gA G 36 0)]) (As := [.int 33, .int (σ 32), .int ti]) X (c_X10_place (l := l) hG (σ := σ)  33 (σ 32) ti hM ((va_up_ne _ _ (by decide)).trans (hr_37)) ⟨by decide, by decide⟩ hI.1.1.2) mf_X10_place mv_X10_place cf_X10 rfl (ac_9_0 hT_36) lk_X10_48 rfl ⟨by decide, by decide⟩ ⟨Nat.le_refl _, Nat.le_refl _⟩ rfl (Nat.le_of_ble_eq_true rfl) dX10_setPoint_51 (st2 := [.int (S_X10_place σ 33 (σ 32) ti), .int (σ 32), .int 33, .ref (gA G 36 0)]) rfl ?_
      refine q_iload_n X 1 dX10_setPoint_54 rfl ?_
      refine q_callV (h1 := _) (rest := []) (As := [.int 33, .int (σ 32), .int (S_X10_place σ 33 (σ 32) ti), .int ti]) X (c_X10_isAt (l := l) hG (σ := σ)  33 (σ 32) (S_X10_place σ 33 (σ 32) ti) ti hM ((va_up_ne _ _ (by decide)).trans (hr_37)) ⟨by decide, by decide⟩ hI.1.1.2 (place_bd hI.1.1.1).1) mf_X10_isAt mv_X10_isAt cf_X10 rfl (ac_9_0 hT_36) lk_X10_52 rfl ⟨by decide, by decide⟩ ⟨Nat.le_refl _, Nat.le_refl _⟩ rfl (Nat.le_of_ble_eq_true rfl) dX10_setPoint_55 (st2 := [.int (S_X10_isAt σ 33 (σ 32) (S_X10_place σ 33 (σ 32) ti) ti)]) rfl ?_
      refine q_istore_n (lv' := [(3, .int (S_X10_isAt σ 33 (σ 32) (S_X10_place σ 33 (σ 32) ti) ti)), (0, .ref (gA G 36 0)), (1, .int ti), (2, .int te)]) X dX10_setPoint_58 (by decide) rfl ?_
      refine q_iload_n X 0 dX10_setPoint_59 rfl ?_
      refine q_if_ne (tgt := 78) X dX10_setPoint_60 (by decide) (fun c4 => ?_) (fun c4 => ?_)
      · skip
        refine q_aload_n X 1 dX10_setPoint_78 rfl ?_
        obtain ⟨r5, e_r5⟩ : ∃ z : Nat → Int32, z = (S_X10_act r1 σ β).1 := ⟨_, rfl⟩
        obtain ⟨r6, e_r6⟩ : ∃ z : Nat → Int32, z = (S_X10_act r1 σ β).2 := ⟨_, rfl⟩
        refine q_callV (h1 := _) (rest := []) (As := []) X (c_X10_act (l := l) hG (κ := r1) (σ := σ) (β := β)   hM (va_up_self _ _ _) ((va_up_ne _ _ (by decide)).trans (hr_37)) ((va_up_ne _ _ (by decide)).trans (hr_39)) (by subst_vars; exact hsm)) mf_X10_act mv_X10_act cf_X10 rfl (ac_9_0 hT_36) lk_X10_36 rfl ⟨by decide, by decide⟩ ⟨Nat.le_refl _, Nat.le_refl _⟩ rfl (Nat.le_of_ble_eq_true rfl) dX10_setPoint_79 (st2 := []) rfl ?_
        refine q_eq (h2 := va_up (va_up h 36 r5) 39 r6) (by rw [← e_r5, ← e_r6]; (funext x; simp only [va_up]; (repeat' split) <;> first | rfl | omega)) rfl ?_
        refine q_aload_n X 1 dX10_setPoint_82 rfl ?_
        refine q_bipush (v := 33) X dX10_setPoint_83 (by decide) ?_
        refine q_bipush (v := 32) X dX10_setPoint_85 (by decide) ?_
        refine q_iload_n X 2 dX10_setPoint_87 rfl ?_
        refine q_iload_n X 3 dX10_setPoint_88 rfl ?_
        obtain ⟨r7, e_r7⟩ : ∃ z : Nat → Int32, z = S_X10_insert_P σ ti te := ⟨_, rfl⟩
        refine q_callV (h1 := _) (rest := []) (As := [.int 33, .int 32, .int ti, .int te]) X (c_X10_insert_P (l := l) hG (σ := σ)  ti te hM ((va_up_ne _ _ (by decide)).trans ((va_up_ne _ _ (by decide)).trans (hr_37))) hI.1.1) mf_X10_insert mv_X10_insert cf_X10 rfl (ac_9_0 hT_36) lk_X10_57 rfl ⟨by decide, by decide⟩ ⟨Nat.le_refl _, Nat.le_refl _⟩ rfl (Nat.le_of_ble_eq_true rfl) dX10_setPoint_89 (st2 := []) rfl ?_
        refine q_eq (h2 := va_up (va_up (va_up h 36 r5) 39 r6) 37 r7) (by rw [e_r7]) rfl ?_
        refine q_aload_n X 1 dX10_setPoint_92 rfl ?_
        refine q_get (fk := 1) (v := .ref (gA G 37 0)) X cf_X10 (ac_9_0 hT_36) (by decide) fl_X10_7 rfl rfl dX10_setPoint_93 rfl ?_
        refine q_bipush (v := 32) X dX10_setPoint_96 (by decide) ?_
        refine q_iald (x := r7 32) X (ac_10_0 hT_37) (by rw [hT_37]; exact vin_lit (by decide)) dX10_setPoint_98 (va_up_self _ _ _) rfl ?_
        have E : Z = (r7 32, r5, r7, r6) := by subst e_r7; subst e_r6; subst e_r5; subst e_r1; exact hZ.symm.trans ((if_neg c2).trans ((if_neg c3).trans ((if_neg c4).trans rfl)))
        exact q_iret X hret dX10_setPoint_99 (by rw [E]) (by rw [E]; (funext x; simp only [va_up]; (repeat' split) <;> first | rfl | omega | (subst_vars; rfl) | (subst_vars; assumption)))
      · skip
        refine q_aload_n X 1 dX10_setPoint_63 rfl ?_
        refine q_get (fk := 1) (v := .ref (gA G 37 0)) X cf_X10 (ac_9_0 hT_36) (by decide) fl_X10_7 rfl rfl dX10_setPoint_64 rfl ?_
        refine q_bipush (v := 32) X dX10_setPoint_67 (by decide) ?_
        refine q_iald (x := σ 32) X (ac_10_0 hT_37) (by rw [hT_37]; exact vin_lit (by decide)) dX10_setPoint_69 ((va_up_ne _ _ (by decide)).trans (hr_37)) rfl ?_
        refine q_bipush (v := 8) X dX10_setPoint_70 (by decide) ?_
        refine q_icmp_ne (tgt := 78) X dX10_setPoint_72 (by decide) (fun c8 => ?_) (fun c8 => ?_)
        · skip
          refine q_aload_n X 1 dX10_setPoint_78 rfl ?_
          obtain ⟨r9, e_r9⟩ : ∃ z : Nat → Int32, z = (S_X10_act r1 σ β).1 := ⟨_, rfl⟩
          obtain ⟨r10, e_r10⟩ : ∃ z : Nat → Int32, z = (S_X10_act r1 σ β).2 := ⟨_, rfl⟩
          refine q_callV (h1 := _) (rest := []) (As := []) X (c_X10_act (l := l) hG (κ := r1) (σ := σ) (β := β)   hM (va_up_self _ _ _) ((va_up_ne _ _ (by decide)).trans (hr_37)) ((va_up_ne _ _ (by decide)).trans (hr_39)) (by subst_vars; exact hsm)) mf_X10_act mv_X10_act cf_X10 rfl (ac_9_0 hT_36) lk_X10_36 rfl ⟨by decide, by decide⟩ ⟨Nat.le_refl _, Nat.le_refl _⟩ rfl (Nat.le_of_ble_eq_true rfl) dX10_setPoint_79 (st2 := []) rfl ?_
          refine q_eq (h2 := va_up (va_up h 36 r9) 39 r10) (by rw [← e_r9, ← e_r10]; (funext x; simp only [va_up]; (repeat' split) <;> first | rfl | omega)) rfl ?_
          refine q_aload_n X 1 dX10_setPoint_82 rfl ?_
          refine q_bipush (v := 33) X dX10_setPoint_83 (by decide) ?_
          refine q_bipush (v := 32) X dX10_setPoint_85 (by decide) ?_
          refine q_iload_n X 2 dX10_setPoint_87 rfl ?_
          refine q_iload_n X 3 dX10_setPoint_88 rfl ?_
          obtain ⟨r11, e_r11⟩ : ∃ z : Nat → Int32, z = S_X10_insert_P σ ti te := ⟨_, rfl⟩
          refine q_callV (h1 := _) (rest := []) (As := [.int 33, .int 32, .int ti, .int te]) X (c_X10_insert_P (l := l) hG (σ := σ)  ti te hM ((va_up_ne _ _ (by decide)).trans ((va_up_ne _ _ (by decide)).trans (hr_37))) hI.1.1) mf_X10_insert mv_X10_insert cf_X10 rfl (ac_9_0 hT_36) lk_X10_57 rfl ⟨by decide, by decide⟩ ⟨Nat.le_refl _, Nat.le_refl _⟩ rfl (Nat.le_of_ble_eq_true rfl) dX10_setPoint_89 (st2 := []) rfl ?_
          refine q_eq (h2 := va_up (va_up (va_up h 36 r9) 39 r10) 37 r11) (by rw [e_r11]) rfl ?_
          refine q_aload_n X 1 dX10_setPoint_92 rfl ?_
          refine q_get (fk := 1) (v := .ref (gA G 37 0)) X cf_X10 (ac_9_0 hT_36) (by decide) fl_X10_7 rfl rfl dX10_setPoint_93 rfl ?_
          refine q_bipush (v := 32) X dX10_setPoint_96 (by decide) ?_
          refine q_iald (x := r11 32) X (ac_10_0 hT_37) (by rw [hT_37]; exact vin_lit (by decide)) dX10_setPoint_98 (va_up_self _ _ _) rfl ?_
          have E : Z = (r11 32, r9, r11, r10) := by subst e_r11; subst e_r10; subst e_r9; subst e_r1; exact hZ.symm.trans ((if_neg c2).trans ((if_neg c3).trans ((if_pos c4).trans ((if_neg c8).trans rfl))))
          exact q_iret X hret dX10_setPoint_99 (by rw [E]) (by rw [E]; (funext x; simp only [va_up]; (repeat' split) <;> first | rfl | omega | (subst_vars; rfl) | (subst_vars; assumption)))
        · skip
          refine q_ldc X kc_X10_56 dX10_setPoint_75 ?_
          have E : Z = ((-100003), r1, σ, β) := by subst e_r1; exact hZ.symm.trans ((if_neg c2).trans ((if_neg c3).trans ((if_pos c4).trans ((if_pos c8).trans rfl))))
          exact q_iret X hret dX10_setPoint_77 (by rw [E]) (by rw [E]; (funext x; simp only [va_up]; (repeat' split) <;> first | rfl | omega | (subst_vars; rfl) | (subst_vars; assumption)))
    · skip
      refine q_ldc X kc_X10_47 dX10_setPoint_27 ?_
      have E : Z = ((-100001), r1, σ, β) := by subst e_r1; exact hZ.symm.trans ((if_neg c2).trans ((if_pos c3).trans rfl))
      exact q_iret X hret dX10_setPoint_29 (by rw [E]) (by rw [E]; (funext x; simp only [va_up]; (repeat' split) <;> first | rfl | omega | (subst_vars; rfl) | (subst_vars; assumption)))
def S_X10_removePoint (κ : Nat → Int32) (σ : Nat → Int32) (β : Nat → Int32) (ti : Int32) : Int32 × (Nat → Int32) × (Nat → Int32) × (Nat → Int32) := let r1 : Nat → Int32 := va_up κ 0 0; if (S_X10_in ti 0 400) = 0 then (((-100001), r1, σ, β)) else (if (S_X10_isAt σ 33 (σ 32) (S_X10_place σ 33 (σ 32) ti) ti) = 0 then (((-100002), r1, σ, β)) else (let r4 : Nat → Int32 := (S_X10_act r1 σ β).1; let r5 : Nat → Int32 := (S_X10_act r1 σ β).2; let r6 : Nat → Int32 := S_X10_takeOut_P σ (S_X10_place σ 33 (σ 32) ti); (σ (Int32.toNatClampNeg ((33 + (2 * (S_X10_place σ 33 (σ 32) ti))) + 1)), r4, r6, r5)))
set_option maxRecDepth 100000 in
set_option maxHeartbeats 4000000 in
theorem c_X10_removePoint {G : Geo} {l : Launch} (hG : GOK G) {h : Hp} {κ : Nat → Int32} {σ : Nat → Int32} {β : Nat → Int32} (ti : Int32) (hM : MT G) (hr_36 : h 36 = κ) (hr_37 : h 37 = σ) (hr_39 : h 39 = β) (hsm : 0 ≤ (κ 1).toInt ∧ (κ 1).toInt ≤ 5) (hI : MI σ) : CM G l yX10_removePoint cX10_removePoint 4 (some .int) 1 24 [.ref (gA G 36 0), .int ti] h (va_up (va_up (va_up h 36 ((S_X10_removePoint κ σ β ti).2.1)) 37 ((S_X10_removePoint κ σ β ti).2.2.1)) 39 ((S_X10_removePoint κ σ β ti).2.2.2)) (some (.int ((S_X10_removePoint κ σ β ti).1))) := by
  obtain ⟨Z, hZ⟩ : ∃ Z, S_X10_removePoint κ σ β ti = Z := ⟨_, rfl⟩
  rw [hZ]
  refine q_enter hG mf_X10_removePoint (Nat.le_of_ble_eq_true rfl) ?_
  intro p e s m below meth c X hret
  have hT_36 : gT G 36 = 9 := hM 36 (by decide) (by decide)
  have hT_37 : gT G 37 = 10 := hM 37 (by decide) (by decide)
  have hT_39 : gT G 39 = 11 := hM 39 (by decide) (by decide)
  refine q_lv (lv2 := [(0, .ref (gA G 36 0)), (1, .int ti)]) rfl ?_
  refine q_aload_n X 0 dX10_removePoint_0 rfl ?_
  refine q_iconst (v := 0) X dX10_removePoint_1 (by decide) ?_
  obtain ⟨r1, e_r1⟩ : ∃ z : Nat → Int32, z = va_up κ 0 0 := ⟨_, rfl⟩
  refine q_put (fk := 0) (h2 := va_up h 36 r1) X cf_X10 (ac_9_0 hT_36) (by decide) fl_X10_25 rfl rfl (by rw [hT_36]; rfl) rfl rfl rfl dX10_removePoint_2 (hr_36) (by rw [e_r1]) ?_
  refine q_iload_n X 1 dX10_removePoint_5 rfl ?_
  refine q_iconst (v := 0) X dX10_removePoint_6 (by decide) ?_
  refine q_sipush (v := 400) X dX10_removePoint_7 (by decide) ?_
  refine q_callS (h1 := _) (rest := []) (As := [.int ti, .int 0, .int 400]) X (c_X10_in (l := l) hG   ti 0 400 ) mf_X10_in ms_X10_in lk_X10_39 rfl ⟨by decide, by decide⟩ ⟨Nat.le_refl _, Nat.le_refl _⟩ rfl (Nat.le_of_ble_eq_true rfl) dX10_removePoint_10 (st2 := [.int (S_X10_in ti 0 400)]) rfl ?_
  refine q_if_ne (tgt := 19) X dX10_removePoint_13 (by decide) (fun c2 => ?_) (fun c2 => ?_)
  · skip
    refine q_aload_n X 0 dX10_removePoint_19 rfl ?_
    refine q_bipush (v := 33) X dX10_removePoint_20 (by decide) ?_
    refine q_aload_n X 0 dX10_removePoint_22 rfl ?_
    refine q_get (fk := 1) (v := .ref (gA G 37 0)) X cf_X10 (ac_9_0 hT_36) (by decide) fl_X10_7 rfl rfl dX10_removePoint_23 rfl ?_
    refine q_bipush (v := 32) X dX10_removePoint_26 (by decide) ?_
    refine q_iald (x := σ 32) X (ac_10_0 hT_37) (by rw [hT_37]; exact vin_lit (by decide)) dX10_removePoint_28 ((va_up_ne _ _ (by decide)).trans (hr_37)) rfl ?_
    refine q_iload_n X 1 dX10_removePoint_29 rfl ?_
    refine q_callV (h1 := _) (rest := []) (As := [.int 33, .int (σ 32), .int ti]) X (c_X10_place (l := l) hG (σ := σ)  33 (σ 32) ti hM ((va_up_ne _ _ (by decide)).trans (hr_37)) ⟨by decide, by decide⟩ hI.1.1.2) mf_X10_place mv_X10_place cf_X10 rfl (ac_9_0 hT_36) lk_X10_48 rfl ⟨by decide, by decide⟩ ⟨Nat.le_refl _, Nat.le_refl _⟩ rfl (Nat.le_of_ble_eq_true rfl) dX10_removePoint_30 (st2 := [.int (S_X10_place σ 33 (σ 32) ti)]) rfl ?_
    refine q_istore_n (lv' := [(2, .int (S_X10_place σ 33 (σ 32) ti)), (0, .ref (gA G 36 0)), (1, .int ti)]) X dX10_removePoint_33 (by decide) rfl ?_
    refine q_aload_n X 1 dX10_removePoint_34 rfl ?_
    refine q_bipush (v := 33) X dX10_removePoint_35 (by decide) ?_
    refine q_aload_n X 1 dX10_removePoint_37 rfl ?_
    refine q_get (fk := 1) (v := .ref (gA G 37 0)) X cf_X10 (ac_9_0 hT_36) (by decide) fl_X10_7 rfl rfl dX10_removePoint_38 rfl ?_
    refine q_bipush (v := 32) X dX10_removePoint_41 (by decide) ?_
    refine q_iald (x := σ 32) X (ac_10_0 hT_37) (by rw [hT_37]; exact vin_lit (by decide)) dX10_removePoint_43 ((va_up_ne _ _ (by decide)).trans (hr_37)) rfl ?_
    refine q_iload_n X 0 dX10_removePoint_44 rfl ?_
    refine q_iload_n X 2 dX10_removePoint_45 rfl ?_
    refine q_callV (h1 := _) (rest := []) (As := [.int 33, .int (σ 32), .int (S_X10_place σ 33 (σ 32) ti), .int ti]) X (c_X10_isAt (l := l) hG (σ := σ)  33 (σ 32) (S_X10_place σ 33 (σ 32) ti) ti hM ((va_up_ne _ _ (by decide)).trans (hr_37)) ⟨by decide, by decide⟩ hI.1.1.2 (place_bd hI.1.1.1).1) mf_X10_isAt mv_X10_isAt cf_X10 rfl (ac_9_0 hT_36) lk_X10_52 rfl ⟨by decide, by decide⟩ ⟨Nat.le_refl _, Nat.le_refl _⟩ rfl (Nat.le_of_ble_eq_true rfl) dX10_removePoint_46 (st2 := [.int (S_X10_isAt σ 33 (σ 32) (S_X10_place σ 33 (σ 32) ti) ti)]) rfl ?_
    refine q_if_ne (tgt := 55) X dX10_removePoint_49 (by decide) (fun c3 => ?_) (fun c3 => ?_)
    · skip
      refine q_aload_n X 1 dX10_removePoint_55 rfl ?_
      obtain ⟨r4, e_r4⟩ : ∃ z : Nat → Int32, z = (S_X10_act r1 σ β).1 := ⟨_, rfl⟩
      obtain ⟨r5, e_r5⟩ : ∃ z : Nat → Int32, z = (S_X10_act r1 σ β).2 := ⟨_, rfl⟩
      refine q_callV (h1 := _) (rest := []) (As := []) X (c_X10_act (l := l) hG (κ := r1) (σ := σ) (β := β)   hM (va_up_self _ _ _) ((va_up_ne _ _ (by decide)).trans (hr_37)) ((va_up_ne _ _ (by decide)).trans (hr_39)) (by subst_vars; exact hsm)) mf_X10_act mv_X10_act cf_X10 rfl (ac_9_0 hT_36) lk_X10_36 rfl ⟨by decide, by decide⟩ ⟨Nat.le_refl _, Nat.le_refl _⟩ rfl (Nat.le_of_ble_eq_true rfl) dX10_removePoint_56 (st2 := []) rfl ?_
      refine q_eq (h2 := va_up (va_up h 36 r4) 39 r5) (by rw [← e_r4, ← e_r5]; (funext x; simp only [va_up]; (repeat' split) <;> first | rfl | omega)) rfl ?_
      refine q_aload_n X 1 dX10_removePoint_59 rfl ?_
      refine q_get (fk := 1) (v := .ref (gA G 37 0)) X cf_X10 (ac_9_0 hT_36) (by decide) fl_X10_7 rfl rfl dX10_removePoint_60 rfl ?_
      refine q_bipush (v := 33) X dX10_removePoint_63 (by decide) ?_
      refine q_iconst (v := 2) X dX10_removePoint_65 (by decide) ?_
      refine q_iload_n X 0 dX10_removePoint_66 rfl ?_
      refine q_imul X dX10_removePoint_67 ?_
      refine q_iadd X dX10_removePoint_68 ?_
      refine q_iconst (v := 1) X dX10_removePoint_69 (by decide) ?_
      refine q_iadd X dX10_removePoint_70 ?_
      refine q_iald (x := σ (Int32.toNatClampNeg ((33 + (2 * (S_X10_place σ 33 (σ 32) ti))) + 1))) X (ac_10_0 hT_37) (by rw [hT_37]; exact (ix_33 ⟨by decide, by decide⟩ (pbd8 hI.1.1)).2) dX10_removePoint_71 ((va_up_ne _ _ (by decide)).trans ((va_up_ne _ _ (by decide)).trans (hr_37))) (by rw [Nat.zero_add, Nat.one_mul]) ?_
      refine q_istore_n (lv' := [(3, .int (σ (Int32.toNatClampNeg ((33 + (2 * (S_X10_place σ 33 (σ 32) ti))) + 1)))), (2, .int (S_X10_place σ 33 (σ 32) ti)), (0, .ref (gA G 36 0)), (1, .int ti)]) X dX10_removePoint_72 (by decide) rfl ?_
      refine q_aload_n X 2 dX10_removePoint_73 rfl ?_
      refine q_bipush (v := 33) X dX10_removePoint_74 (by decide) ?_
      refine q_bipush (v := 32) X dX10_removePoint_76 (by decide) ?_
      refine q_iload_n X 1 dX10_removePoint_78 rfl ?_
      obtain ⟨r6, e_r6⟩ : ∃ z : Nat → Int32, z = S_X10_takeOut_P σ (S_X10_place σ 33 (σ 32) ti) := ⟨_, rfl⟩
      refine q_callV (h1 := _) (rest := []) (As := [.int 33, .int 32, .int (S_X10_place σ 33 (σ 32) ti)]) X (c_X10_takeOut_P (l := l) hG (σ := σ)  (S_X10_place σ 33 (σ 32) ti) hM ((va_up_ne _ _ (by decide)).trans ((va_up_ne _ _ (by decide)).trans (hr_37))) (out_pre hI.1.1 (by assumption)).1 (out_pre hI.1.1 (by assumption)).2) mf_X10_takeOut mv_X10_takeOut cf_X10 rfl (ac_9_0 hT_36) lk_X10_62 rfl ⟨by decide, by decide⟩ ⟨Nat.le_refl _, Nat.le_refl _⟩ rfl (Nat.le_of_ble_eq_true rfl) dX10_removePoint_79 (st2 := []) rfl ?_
      refine q_eq (h2 := va_up (va_up (va_up h 36 r4) 39 r5) 37 r6) (by rw [e_r6]) rfl ?_
      refine q_iload_n X 0 dX10_removePoint_82 rfl ?_
      have E : Z = (σ (Int32.toNatClampNeg ((33 + (2 * (S_X10_place σ 33 (σ 32) ti))) + 1)), r4, r6, r5) := by subst e_r6; subst e_r5; subst e_r4; subst e_r1; exact hZ.symm.trans ((if_neg c2).trans ((if_neg c3).trans rfl))
      exact q_iret X hret dX10_removePoint_83 (by rw [E]) (by rw [E]; (funext x; simp only [va_up]; (repeat' split) <;> first | rfl | omega | (subst_vars; rfl) | (subst_vars; assumption)))
    · skip
      refine q_ldc X kc_X10_61 dX10_removePoint_52 ?_
      have E : Z = ((-100002), r1, σ, β) := by subst e_r1; exact hZ.symm.trans ((if_neg c2).trans ((if_pos c3).trans rfl))
      exact q_iret X hret dX10_removePoint_54 (by rw [E]) (by rw [E]; (funext x; simp only [va_up]; (repeat' split) <;> first | rfl | omega | (subst_vars; rfl) | (subst_vars; assumption)))
  · skip
    refine q_ldc X kc_X10_47 dX10_removePoint_16 ?_
    have E : Z = ((-100001), r1, σ, β) := by subst e_r1; exact hZ.symm.trans ((if_pos c2).trans rfl)
    exact q_iret X hret dX10_removePoint_18 (by rw [E]) (by rw [E]; (funext x; simp only [va_up]; (repeat' split) <;> first | rfl | omega | (subst_vars; rfl) | (subst_vars; assumption)))
def S_X10_setRow (κ : Nat → Int32) (σ : Nat → Int32) (β : Nat → Int32) (te : Int32) (ra : Int32) : Int32 × (Nat → Int32) × (Nat → Int32) × (Nat → Int32) := let r1 : Nat → Int32 := va_up κ 0 0; if (S_X10_in te 0 3000) = 0 then (((-100001), r1, σ, β)) else (if (S_X10_in ra (-1) 999) = 0 then (((-100001), r1, σ, β)) else (if 0 ≤ ra then (if (S_X10_isAt σ 50 (σ 49) (S_X10_place σ 50 (σ 49) te) te) = 0 then (if (σ 49) = 6 then (((-100003), r1, σ, β)) else (let r10 : Nat → Int32 := (S_X10_act r1 σ β).1; let r11 : Nat → Int32 := (S_X10_act r1 σ β).2; let r12 : Nat → Int32 := S_X10_insert_R σ te ra; (r12 49, r10, r12, r11))) else (let r6 : Nat → Int32 := (S_X10_act r1 σ β).1; let r7 : Nat → Int32 := (S_X10_act r1 σ β).2; let r8 : Nat → Int32 := S_X10_insert_R σ te ra; (r8 49, r6, r8, r7))) else (if (S_X10_isAt σ 50 (σ 49) (S_X10_place σ 50 (σ 49) te) te) = 0 then (((-100002), r1, σ, β)) else (let r14 : Nat → Int32 := (S_X10_act r1 σ β).1; let r15 : Nat → Int32 := (S_X10_act r1 σ β).2; let r16 : Nat → Int32 := S_X10_takeOut_R σ (S_X10_place σ 50 (σ 49) te); (r16 49, r14, r16, r15)))))
set_option maxRecDepth 100000 in
set_option maxHeartbeats 4000000 in
theorem c_X10_setRow {G : Geo} {l : Launch} (hG : GOK G) {h : Hp} {κ : Nat → Int32} {σ : Nat → Int32} {β : Nat → Int32} (te : Int32) (ra : Int32) (hM : MT G) (hr_36 : h 36 = κ) (hr_37 : h 37 = σ) (hr_39 : h 39 = β) (hsm : 0 ≤ (κ 1).toInt ∧ (κ 1).toInt ≤ 5) (hI : MI σ) : CM G l yX10_setRow cX10_setRow 5 (some .int) 2 50 [.ref (gA G 36 0), .int te, .int ra] h (va_up (va_up (va_up h 36 ((S_X10_setRow κ σ β te ra).2.1)) 37 ((S_X10_setRow κ σ β te ra).2.2.1)) 39 ((S_X10_setRow κ σ β te ra).2.2.2)) (some (.int ((S_X10_setRow κ σ β te ra).1))) := by
  obtain ⟨Z, hZ⟩ : ∃ Z, S_X10_setRow κ σ β te ra = Z := ⟨_, rfl⟩
  rw [hZ]
  refine q_enter hG mf_X10_setRow (Nat.le_of_ble_eq_true rfl) ?_
  intro p e s m below meth c X hret
  have hT_36 : gT G 36 = 9 := hM 36 (by decide) (by decide)
  have hT_37 : gT G 37 = 10 := hM 37 (by decide) (by decide)
  have hT_39 : gT G 39 = 11 := hM 39 (by decide) (by decide)
  refine q_lv (lv2 := [(0, .ref (gA G 36 0)), (1, .int te), (2, .int ra)]) rfl ?_
  refine q_aload_n X 0 dX10_setRow_0 rfl ?_
  refine q_iconst (v := 0) X dX10_setRow_1 (by decide) ?_
  obtain ⟨r1, e_r1⟩ : ∃ z : Nat → Int32, z = va_up κ 0 0 := ⟨_, rfl⟩
  refine q_put (fk := 0) (h2 := va_up h 36 r1) X cf_X10 (ac_9_0 hT_36) (by decide) fl_X10_25 rfl rfl (by rw [hT_36]; rfl) rfl rfl rfl dX10_setRow_2 (hr_36) (by rw [e_r1]) ?_
  refine q_iload_n X 1 dX10_setRow_5 rfl ?_
  refine q_iconst (v := 0) X dX10_setRow_6 (by decide) ?_
  refine q_sipush (v := 3000) X dX10_setRow_7 (by decide) ?_
  refine q_callS (h1 := _) (rest := []) (As := [.int te, .int 0, .int 3000]) X (c_X10_in (l := l) hG   te 0 3000 ) mf_X10_in ms_X10_in lk_X10_39 rfl ⟨by decide, by decide⟩ ⟨Nat.le_refl _, Nat.le_refl _⟩ rfl (Nat.le_of_ble_eq_true rfl) dX10_setRow_10 (st2 := [.int (S_X10_in te 0 3000)]) rfl ?_
  refine q_if_eq (tgt := 27) X dX10_setRow_13 (by decide) (fun c2 => ?_) (fun c2 => ?_)
  · skip
    refine q_ldc X kc_X10_47 dX10_setRow_27 ?_
    have E : Z = ((-100001), r1, σ, β) := by subst e_r1; exact hZ.symm.trans ((if_pos c2).trans rfl)
    exact q_iret X hret dX10_setRow_29 (by rw [E]) (by rw [E]; (funext x; simp only [va_up]; (repeat' split) <;> first | rfl | omega | (subst_vars; rfl) | (subst_vars; assumption)))
  · skip
    refine q_iload_n X 2 dX10_setRow_16 rfl ?_
    refine q_iconst (v := (-1)) X dX10_setRow_17 (by decide) ?_
    refine q_sipush (v := 999) X dX10_setRow_18 (by decide) ?_
    refine q_callS (h1 := _) (rest := []) (As := [.int ra, .int (-1), .int 999]) X (c_X10_in (l := l) hG   ra (-1) 999 ) mf_X10_in ms_X10_in lk_X10_39 rfl ⟨by decide, by decide⟩ ⟨Nat.le_refl _, Nat.le_refl _⟩ rfl (Nat.le_of_ble_eq_true rfl) dX10_setRow_21 (st2 := [.int (S_X10_in ra (-1) 999)]) rfl ?_
    refine q_if_ne (tgt := 30) X dX10_setRow_24 (by decide) (fun c3 => ?_) (fun c3 => ?_)
    · skip
      refine q_aload_n X 0 dX10_setRow_30 rfl ?_
      refine q_bipush (v := 50) X dX10_setRow_31 (by decide) ?_
      refine q_aload_n X 0 dX10_setRow_33 rfl ?_
      refine q_get (fk := 1) (v := .ref (gA G 37 0)) X cf_X10 (ac_9_0 hT_36) (by decide) fl_X10_7 rfl rfl dX10_setRow_34 rfl ?_
      refine q_bipush (v := 49) X dX10_setRow_37 (by decide) ?_
      refine q_iald (x := σ 49) X (ac_10_0 hT_37) (by rw [hT_37]; exact vin_lit (by decide)) dX10_setRow_39 ((va_up_ne _ _ (by decide)).trans (hr_37)) rfl ?_
      refine q_iload_n X 1 dX10_setRow_40 rfl ?_
      refine q_callV (h1 := _) (rest := []) (As := [.int 50, .int (σ 49), .int te]) X (c_X10_place (l := l) hG (σ := σ)  50 (σ 49) te hM ((va_up_ne _ _ (by decide)).trans (hr_37)) ⟨by decide, by decide⟩ hI.c49.2) mf_X10_place mv_X10_place cf_X10 rfl (ac_9_0 hT_36) lk_X10_48 rfl ⟨by decide, by decide⟩ ⟨Nat.le_refl _, Nat.le_refl _⟩ rfl (Nat.le_of_ble_eq_true rfl) dX10_setRow_41 (st2 := [.int (S_X10_place σ 50 (σ 49) te)]) rfl ?_
      refine q_istore_n (lv' := [(3, .int (S_X10_place σ 50 (σ 49) te)), (0, .ref (gA G 36 0)), (1, .int te), (2, .int ra)]) X dX10_setRow_44 (by decide) rfl ?_
      refine q_aload_n X 1 dX10_setRow_45 rfl ?_
      refine q_bipush (v := 50) X dX10_setRow_46 (by decide) ?_
      refine q_aload_n X 1 dX10_setRow_48 rfl ?_
      refine q_get (fk := 1) (v := .ref (gA G 37 0)) X cf_X10 (ac_9_0 hT_36) (by decide) fl_X10_7 rfl rfl dX10_setRow_49 rfl ?_
      refine q_bipush (v := 49) X dX10_setRow_52 (by decide) ?_
      refine q_iald (x := σ 49) X (ac_10_0 hT_37) (by rw [hT_37]; exact vin_lit (by decide)) dX10_setRow_54 ((va_up_ne _ _ (by decide)).trans (hr_37)) rfl ?_
      refine q_iload_n X 0 dX10_setRow_55 rfl ?_
      refine q_iload_n X 2 dX10_setRow_56 rfl ?_
      refine q_callV (h1 := _) (rest := []) (As := [.int 50, .int (σ 49), .int (S_X10_place σ 50 (σ 49) te), .int te]) X (c_X10_isAt (l := l) hG (σ := σ)  50 (σ 49) (S_X10_place σ 50 (σ 49) te) te hM ((va_up_ne _ _ (by decide)).trans (hr_37)) ⟨by decide, by decide⟩ hI.c49.2 (place_bd hI.c49.1).1) mf_X10_isAt mv_X10_isAt cf_X10 rfl (ac_9_0 hT_36) lk_X10_52 rfl ⟨by decide, by decide⟩ ⟨Nat.le_refl _, Nat.le_refl _⟩ rfl (Nat.le_of_ble_eq_true rfl) dX10_setRow_57 (st2 := [.int (S_X10_isAt σ 50 (σ 49) (S_X10_place σ 50 (σ 49) te) te)]) rfl ?_
      refine q_istore (lv' := [(4, .int (S_X10_isAt σ 50 (σ 49) (S_X10_place σ 50 (σ 49) te) te)), (3, .int (S_X10_place σ 50 (σ 49) te)), (0, .ref (gA G 36 0)), (1, .int te), (2, .int ra)]) X dX10_setRow_60 (by decide) rfl ?_
      refine q_iload_n X 4 dX10_setRow_62 rfl ?_
      refine q_if_ge (tgt := 74) X dX10_setRow_63 (by decide) (fun c4 => ?_) (fun c4 => ?_)
      · skip
        refine q_iload X 0 dX10_setRow_74 rfl ?_
        refine q_if_ne (tgt := 94) X dX10_setRow_76 (by decide) (fun c5 => ?_) (fun c5 => ?_)
        · skip
          refine q_aload_n X 2 dX10_setRow_94 rfl ?_
          obtain ⟨r6, e_r6⟩ : ∃ z : Nat → Int32, z = (S_X10_act r1 σ β).1 := ⟨_, rfl⟩
          obtain ⟨r7, e_r7⟩ : ∃ z : Nat → Int32, z = (S_X10_act r1 σ β).2 := ⟨_, rfl⟩
          refine q_callV (h1 := _) (rest := []) (As := []) X (c_X10_act (l := l) hG (κ := r1) (σ := σ) (β := β)   hM (va_up_self _ _ _) ((va_up_ne _ _ (by decide)).trans (hr_37)) ((va_up_ne _ _ (by decide)).trans (hr_39)) (by subst_vars; exact hsm)) mf_X10_act mv_X10_act cf_X10 rfl (ac_9_0 hT_36) lk_X10_36 rfl ⟨by decide, by decide⟩ ⟨Nat.le_refl _, Nat.le_refl _⟩ rfl (Nat.le_of_ble_eq_true rfl) dX10_setRow_95 (st2 := []) rfl ?_
          refine q_eq (h2 := va_up (va_up h 36 r6) 39 r7) (by rw [← e_r6, ← e_r7]; (funext x; simp only [va_up]; (repeat' split) <;> first | rfl | omega)) rfl ?_
          refine q_iload_n X 4 dX10_setRow_98 rfl ?_
          refine q_if_ge (tgt := 114) X dX10_setRow_99 (by decide) (fun _ => ?_) (fun q => absurd c4 q)
          refine q_aload_n X 2 dX10_setRow_114 rfl ?_
          refine q_bipush (v := 50) X dX10_setRow_115 (by decide) ?_
          refine q_bipush (v := 49) X dX10_setRow_117 (by decide) ?_
          refine q_iload_n X 3 dX10_setRow_119 rfl ?_
          refine q_iload_n X 4 dX10_setRow_120 rfl ?_
          obtain ⟨r8, e_r8⟩ : ∃ z : Nat → Int32, z = S_X10_insert_R σ te ra := ⟨_, rfl⟩
          refine q_callV (h1 := _) (rest := []) (As := [.int 50, .int 49, .int te, .int ra]) X (c_X10_insert_R (l := l) hG (σ := σ)  te ra hM ((va_up_ne _ _ (by decide)).trans ((va_up_ne _ _ (by decide)).trans (hr_37))) hI.c49) mf_X10_insert mv_X10_insert cf_X10 rfl (ac_9_0 hT_36) lk_X10_57 rfl ⟨by decide, by decide⟩ ⟨Nat.le_refl _, Nat.le_refl _⟩ rfl (Nat.le_of_ble_eq_true rfl) dX10_setRow_121 (st2 := []) rfl ?_
          refine q_eq (h2 := va_up (va_up (va_up h 36 r6) 39 r7) 37 r8) (by rw [e_r8]) rfl ?_
          refine q_aload_n X 2 dX10_setRow_124 rfl ?_
          refine q_get (fk := 1) (v := .ref (gA G 37 0)) X cf_X10 (ac_9_0 hT_36) (by decide) fl_X10_7 rfl rfl dX10_setRow_125 rfl ?_
          refine q_bipush (v := 49) X dX10_setRow_128 (by decide) ?_
          refine q_iald (x := r8 49) X (ac_10_0 hT_37) (by rw [hT_37]; exact vin_lit (by decide)) dX10_setRow_130 (va_up_self _ _ _) rfl ?_
          have E : Z = (r8 49, r6, r8, r7) := by subst e_r8; subst e_r7; subst e_r6; subst e_r1; exact hZ.symm.trans ((if_neg c2).trans ((if_neg c3).trans ((if_pos c4).trans ((if_neg c5).trans rfl))))
          exact q_iret X hret dX10_setRow_131 (by rw [E]) (by rw [E]; (funext x; simp only [va_up]; (repeat' split) <;> first | rfl | omega | (subst_vars; rfl) | (subst_vars; assumption)))
        · skip
          refine q_aload_n X 2 dX10_setRow_79 rfl ?_
          refine q_get (fk := 1) (v := .ref (gA G 37 0)) X cf_X10 (ac_9_0 hT_36) (by decide) fl_X10_7 rfl rfl dX10_setRow_80 rfl ?_
          refine q_bipush (v := 49) X dX10_setRow_83 (by decide) ?_
          refine q_iald (x := σ 49) X (ac_10_0 hT_37) (by rw [hT_37]; exact vin_lit (by decide)) dX10_setRow_85 ((va_up_ne _ _ (by decide)).trans (hr_37)) rfl ?_
          refine q_bipush (v := 6) X dX10_setRow_86 (by decide) ?_
          refine q_icmp_ne (tgt := 94) X dX10_setRow_88 (by decide) (fun c9 => ?_) (fun c9 => ?_)
          · skip
            refine q_aload_n X 2 dX10_setRow_94 rfl ?_
            obtain ⟨r10, e_r10⟩ : ∃ z : Nat → Int32, z = (S_X10_act r1 σ β).1 := ⟨_, rfl⟩
            obtain ⟨r11, e_r11⟩ : ∃ z : Nat → Int32, z = (S_X10_act r1 σ β).2 := ⟨_, rfl⟩
            refine q_callV (h1 := _) (rest := []) (As := []) X (c_X10_act (l := l) hG (κ := r1) (σ := σ) (β := β)   hM (va_up_self _ _ _) ((va_up_ne _ _ (by decide)).trans (hr_37)) ((va_up_ne _ _ (by decide)).trans (hr_39)) (by subst_vars; exact hsm)) mf_X10_act mv_X10_act cf_X10 rfl (ac_9_0 hT_36) lk_X10_36 rfl ⟨by decide, by decide⟩ ⟨Nat.le_refl _, Nat.le_refl _⟩ rfl (Nat.le_of_ble_eq_true rfl) dX10_setRow_95 (st2 := []) rfl ?_
            refine q_eq (h2 := va_up (va_up h 36 r10) 39 r11) (by rw [← e_r10, ← e_r11]; (funext x; simp only [va_up]; (repeat' split) <;> first | rfl | omega)) rfl ?_
            refine q_iload_n X 4 dX10_setRow_98 rfl ?_
            refine q_if_ge (tgt := 114) X dX10_setRow_99 (by decide) (fun _ => ?_) (fun q => absurd c4 q)
            refine q_aload_n X 2 dX10_setRow_114 rfl ?_
            refine q_bipush (v := 50) X dX10_setRow_115 (by decide) ?_
            refine q_bipush (v := 49) X dX10_setRow_117 (by decide) ?_
            refine q_iload_n X 3 dX10_setRow_119 rfl ?_
            refine q_iload_n X 4 dX10_setRow_120 rfl ?_
            obtain ⟨r12, e_r12⟩ : ∃ z : Nat → Int32, z = S_X10_insert_R σ te ra := ⟨_, rfl⟩
            refine q_callV (h1 := _) (rest := []) (As := [.int 50, .int 49, .int te, .int ra]) X (c_X10_insert_R (l := l) hG (σ := σ)  te ra hM ((va_up_ne _ _ (by decide)).trans ((va_up_ne _ _ (by decide)).trans (hr_37))) hI.c49) mf_X10_insert mv_X10_insert cf_X10 rfl (ac_9_0 hT_36) lk_X10_57 rfl ⟨by decide, by decide⟩ ⟨Nat.le_refl _, Nat.le_refl _⟩ rfl (Nat.le_of_ble_eq_true rfl) dX10_setRow_121 (st2 := []) rfl ?_
            refine q_eq (h2 := va_up (va_up (va_up h 36 r10) 39 r11) 37 r12) (by rw [e_r12]) rfl ?_
            refine q_aload_n X 2 dX10_setRow_124 rfl ?_
            refine q_get (fk := 1) (v := .ref (gA G 37 0)) X cf_X10 (ac_9_0 hT_36) (by decide) fl_X10_7 rfl rfl dX10_setRow_125 rfl ?_
            refine q_bipush (v := 49) X dX10_setRow_128 (by decide) ?_
            refine q_iald (x := r12 49) X (ac_10_0 hT_37) (by rw [hT_37]; exact vin_lit (by decide)) dX10_setRow_130 (va_up_self _ _ _) rfl ?_
            have E : Z = (r12 49, r10, r12, r11) := by subst e_r12; subst e_r11; subst e_r10; subst e_r1; exact hZ.symm.trans ((if_neg c2).trans ((if_neg c3).trans ((if_pos c4).trans ((if_pos c5).trans ((if_neg c9).trans rfl)))))
            exact q_iret X hret dX10_setRow_131 (by rw [E]) (by rw [E]; (funext x; simp only [va_up]; (repeat' split) <;> first | rfl | omega | (subst_vars; rfl) | (subst_vars; assumption)))
          · skip
            refine q_ldc X kc_X10_56 dX10_setRow_91 ?_
            have E : Z = ((-100003), r1, σ, β) := by subst e_r1; exact hZ.symm.trans ((if_neg c2).trans ((if_neg c3).trans ((if_pos c4).trans ((if_pos c5).trans ((if_pos c9).trans rfl)))))
            exact q_iret X hret dX10_setRow_93 (by rw [E]) (by rw [E]; (funext x; simp only [va_up]; (repeat' split) <;> first | rfl | omega | (subst_vars; rfl) | (subst_vars; assumption)))
      · skip
        refine q_iload X 0 dX10_setRow_66 rfl ?_
        refine q_if_ne (tgt := 74) X dX10_setRow_68 (by decide) (fun c13 => ?_) (fun c13 => ?_)
        · skip
          refine q_iload X 0 dX10_setRow_74 rfl ?_
          refine q_if_ne (tgt := 94) X dX10_setRow_76 (by decide) (fun _ => ?_) (fun q => absurd q c13)
          refine q_aload_n X 2 dX10_setRow_94 rfl ?_
          obtain ⟨r14, e_r14⟩ : ∃ z : Nat → Int32, z = (S_X10_act r1 σ β).1 := ⟨_, rfl⟩
          obtain ⟨r15, e_r15⟩ : ∃ z : Nat → Int32, z = (S_X10_act r1 σ β).2 := ⟨_, rfl⟩
          refine q_callV (h1 := _) (rest := []) (As := []) X (c_X10_act (l := l) hG (κ := r1) (σ := σ) (β := β)   hM (va_up_self _ _ _) ((va_up_ne _ _ (by decide)).trans (hr_37)) ((va_up_ne _ _ (by decide)).trans (hr_39)) (by subst_vars; exact hsm)) mf_X10_act mv_X10_act cf_X10 rfl (ac_9_0 hT_36) lk_X10_36 rfl ⟨by decide, by decide⟩ ⟨Nat.le_refl _, Nat.le_refl _⟩ rfl (Nat.le_of_ble_eq_true rfl) dX10_setRow_95 (st2 := []) rfl ?_
          refine q_eq (h2 := va_up (va_up h 36 r14) 39 r15) (by rw [← e_r14, ← e_r15]; (funext x; simp only [va_up]; (repeat' split) <;> first | rfl | omega)) rfl ?_
          refine q_iload_n X 4 dX10_setRow_98 rfl ?_
          refine q_if_ge (tgt := 114) X dX10_setRow_99 (by decide) (fun q => absurd q c4) (fun _ => ?_)
          refine q_aload_n X 2 dX10_setRow_102 rfl ?_
          refine q_bipush (v := 50) X dX10_setRow_103 (by decide) ?_
          refine q_bipush (v := 49) X dX10_setRow_105 (by decide) ?_
          refine q_iload_n X 1 dX10_setRow_107 rfl ?_
          obtain ⟨r16, e_r16⟩ : ∃ z : Nat → Int32, z = S_X10_takeOut_R σ (S_X10_place σ 50 (σ 49) te) := ⟨_, rfl⟩
          refine q_callV (h1 := _) (rest := []) (As := [.int 50, .int 49, .int (S_X10_place σ 50 (σ 49) te)]) X (c_X10_takeOut_R (l := l) hG (σ := σ)  (S_X10_place σ 50 (σ 49) te) hM ((va_up_ne _ _ (by decide)).trans ((va_up_ne _ _ (by decide)).trans (hr_37))) (out_pre hI.c49 (by assumption)).1 (out_pre hI.c49 (by assumption)).2) mf_X10_takeOut mv_X10_takeOut cf_X10 rfl (ac_9_0 hT_36) lk_X10_62 rfl ⟨by decide, by decide⟩ ⟨Nat.le_refl _, Nat.le_refl _⟩ rfl (Nat.le_of_ble_eq_true rfl) dX10_setRow_108 (st2 := []) rfl ?_
          refine q_eq (h2 := va_up (va_up (va_up h 36 r14) 39 r15) 37 r16) (by rw [e_r16]) rfl ?_
          refine q_goto (tgt := 124) X dX10_setRow_111 (by decide) ?_
          refine q_aload_n X 2 dX10_setRow_124 rfl ?_
          refine q_get (fk := 1) (v := .ref (gA G 37 0)) X cf_X10 (ac_9_0 hT_36) (by decide) fl_X10_7 rfl rfl dX10_setRow_125 rfl ?_
          refine q_bipush (v := 49) X dX10_setRow_128 (by decide) ?_
          refine q_iald (x := r16 49) X (ac_10_0 hT_37) (by rw [hT_37]; exact vin_lit (by decide)) dX10_setRow_130 (va_up_self _ _ _) rfl ?_
          have E : Z = (r16 49, r14, r16, r15) := by subst e_r16; subst e_r15; subst e_r14; subst e_r1; exact hZ.symm.trans ((if_neg c2).trans ((if_neg c3).trans ((if_neg c4).trans ((if_neg c13).trans rfl))))
          exact q_iret X hret dX10_setRow_131 (by rw [E]) (by rw [E]; (funext x; simp only [va_up]; (repeat' split) <;> first | rfl | omega | (subst_vars; rfl) | (subst_vars; assumption)))
        · skip
          refine q_ldc X kc_X10_61 dX10_setRow_71 ?_
          have E : Z = ((-100002), r1, σ, β) := by subst e_r1; exact hZ.symm.trans ((if_neg c2).trans ((if_neg c3).trans ((if_neg c4).trans ((if_pos c13).trans rfl))))
          exact q_iret X hret dX10_setRow_73 (by rw [E]) (by rw [E]; (funext x; simp only [va_up]; (repeat' split) <;> first | rfl | omega | (subst_vars; rfl) | (subst_vars; assumption)))
    · skip
      refine q_ldc X kc_X10_47 dX10_setRow_27 ?_
      have E : Z = ((-100001), r1, σ, β) := by subst e_r1; exact hZ.symm.trans ((if_neg c2).trans ((if_pos c3).trans rfl))
      exact q_iret X hret dX10_setRow_29 (by rw [E]) (by rw [E]; (funext x; simp only [va_up]; (repeat' split) <;> first | rfl | omega | (subst_vars; rfl) | (subst_vars; assumption)))
def S_X10_append (κ : Nat → Int32) (τ : Nat → Int32) (ch : Int32) : Int32 × (Nat → Int32) × (Nat → Int32) := let r1 : Nat → Int32 := va_up κ 0 0; if (S_X10_in ch 1 255) = 0 then (((-100001), r1, τ)) else (if (r1 2) = 100 then (((-100003), r1, τ)) else (let r4 : Nat → Int32 := va_up τ (Int32.toNatClampNeg (r1 2)) ch; let r5 : Nat → Int32 := va_up r1 2 ((r1 2) + 1); (r5 2, r5, r4)))
set_option maxRecDepth 100000 in
set_option maxHeartbeats 4000000 in
theorem c_X10_append {G : Geo} {l : Launch} (hG : GOK G) {h : Hp} {κ : Nat → Int32} {τ : Nat → Int32} (ch : Int32) (hM : MT G) (hr_36 : h 36 = κ) (hr_40 : h 40 = τ) (hlen : 0 ≤ (κ 2).toInt ∧ (κ 2).toInt ≤ 100) : CM G l yX10_append cX10_append 2 (some .int) 1 22 [.ref (gA G 36 0), .int ch] h (va_up (va_up h 36 ((S_X10_append κ τ ch).2.1)) 40 ((S_X10_append κ τ ch).2.2)) (some (.int ((S_X10_append κ τ ch).1))) := by
  obtain ⟨Z, hZ⟩ : ∃ Z, S_X10_append κ τ ch = Z := ⟨_, rfl⟩
  rw [hZ]
  refine q_enter hG mf_X10_append (Nat.le_of_ble_eq_true rfl) ?_
  intro p e s m below meth c X hret
  have hT_36 : gT G 36 = 9 := hM 36 (by decide) (by decide)
  have hT_40 : gT G 40 = 12 := hM 40 (by decide) (by decide)
  refine q_lv (lv2 := [(0, .ref (gA G 36 0)), (1, .int ch)]) rfl ?_
  refine q_aload_n X 0 dX10_append_0 rfl ?_
  refine q_iconst (v := 0) X dX10_append_1 (by decide) ?_
  obtain ⟨r1, e_r1⟩ : ∃ z : Nat → Int32, z = va_up κ 0 0 := ⟨_, rfl⟩
  refine q_put (fk := 0) (h2 := va_up h 36 r1) X cf_X10 (ac_9_0 hT_36) (by decide) fl_X10_25 rfl rfl (by rw [hT_36]; rfl) rfl rfl rfl dX10_append_2 (hr_36) (by rw [e_r1]) ?_
  refine q_iload_n X 1 dX10_append_5 rfl ?_
  refine q_iconst (v := 1) X dX10_append_6 (by decide) ?_
  refine q_sipush (v := 255) X dX10_append_7 (by decide) ?_
  refine q_callS (h1 := _) (rest := []) (As := [.int ch, .int 1, .int 255]) X (c_X10_in (l := l) hG   ch 1 255 ) mf_X10_in ms_X10_in lk_X10_39 rfl ⟨by decide, by decide⟩ ⟨Nat.le_refl _, Nat.le_refl _⟩ rfl (Nat.le_of_ble_eq_true rfl) dX10_append_10 (st2 := [.int (S_X10_in ch 1 255)]) rfl ?_
  refine q_if_ne (tgt := 19) X dX10_append_13 (by decide) (fun c2 => ?_) (fun c2 => ?_)
  · skip
    refine q_aload_n X 0 dX10_append_19 rfl ?_
    refine q_geti (fk := 6) (x := r1 2) X cf_X10 (ac_9_0 hT_36) (by decide) fl_X10_65 rfl rfl dX10_append_20 (va_up_self _ _ _) rfl ?_
    refine q_bipush (v := 100) X dX10_append_23 (by decide) ?_
    refine q_icmp_ne (tgt := 31) X dX10_append_25 (by decide) (fun c3 => ?_) (fun c3 => ?_)
    · skip
      refine q_aload_n X 0 dX10_append_31 rfl ?_
      refine q_get (fk := 5) (v := .ref (gA G 40 0)) X cf_X10 (ac_9_0 hT_36) (by decide) fl_X10_19 rfl rfl dX10_append_32 rfl ?_
      refine q_aload_n X 0 dX10_append_35 rfl ?_
      refine q_geti (fk := 6) (x := r1 2) X cf_X10 (ac_9_0 hT_36) (by decide) fl_X10_65 rfl rfl dX10_append_36 (va_up_self _ _ _) rfl ?_
      refine q_iload_n X 1 dX10_append_39 rfl ?_
      obtain ⟨r4, e_r4⟩ : ∃ z : Nat → Int32, z = va_up τ (Int32.toNatClampNeg (r1 2)) ch := ⟨_, rfl⟩
      refine q_iast (h2 := va_up (va_up h 36 r1) 40 r4) X (ac_12_0 hT_40) (by rw [hT_40]; exact (by subst_vars; exact ix_len hlen (by assumption))) dX10_append_40 ((va_up_ne _ _ (by decide)).trans (hr_40)) (by rw [Nat.zero_add, Nat.one_mul, e_r4]) ?_
      refine q_aload_n X 0 dX10_append_41 rfl ?_
      refine q_dup X dX10_append_42 rfl ?_
      refine q_geti (fk := 6) (x := r1 2) X cf_X10 (ac_9_0 hT_36) (by decide) fl_X10_65 rfl rfl dX10_append_43 ((va_up_ne _ _ (by decide)).trans (va_up_self _ _ _)) rfl ?_
      refine q_iconst (v := 1) X dX10_append_46 (by decide) ?_
      refine q_iadd X dX10_append_47 ?_
      obtain ⟨r5, e_r5⟩ : ∃ z : Nat → Int32, z = va_up r1 2 ((r1 2) + 1) := ⟨_, rfl⟩
      refine q_put (fk := 6) (h2 := va_up (va_up h 40 r4) 36 r5) X cf_X10 (ac_9_0 hT_36) (by decide) fl_X10_65 rfl rfl (by rw [hT_36]; rfl) rfl rfl rfl dX10_append_48 ((va_up_ne _ _ (by decide)).trans (va_up_self _ _ _)) (by rw [← e_r5]; funext x; simp only [va_up]; (repeat' split) <;> first | rfl | omega) ?_
      refine q_aload_n X 0 dX10_append_51 rfl ?_
      refine q_geti (fk := 6) (x := r5 2) X cf_X10 (ac_9_0 hT_36) (by decide) fl_X10_65 rfl rfl dX10_append_52 (va_up_self _ _ _) rfl ?_
      have E : Z = (r5 2, r5, r4) := by subst e_r5; subst e_r4; subst e_r1; exact hZ.symm.trans ((if_neg c2).trans ((if_neg c3).trans rfl))
      exact q_iret X hret dX10_append_55 (by rw [E]) (by rw [E]; (funext x; simp only [va_up]; (repeat' split) <;> first | rfl | omega | (subst_vars; rfl) | (subst_vars; assumption)))
    · skip
      refine q_ldc X kc_X10_56 dX10_append_28 ?_
      have E : Z = ((-100003), r1, τ) := by subst e_r1; exact hZ.symm.trans ((if_neg c2).trans ((if_pos c3).trans rfl))
      exact q_iret X hret dX10_append_30 (by rw [E]) (by rw [E]; (funext x; simp only [va_up]; (repeat' split) <;> first | rfl | omega | (subst_vars; rfl) | (subst_vars; assumption)))
  · skip
    refine q_ldc X kc_X10_47 dX10_append_16 ?_
    have E : Z = ((-100001), r1, τ) := by subst e_r1; exact hZ.symm.trans ((if_pos c2).trans rfl)
    exact q_iret X hret dX10_append_18 (by rw [E]) (by rw [E]; (funext x; simp only [va_up]; (repeat' split) <;> first | rfl | omega | (subst_vars; rfl) | (subst_vars; assumption)))
def S_X10_clearText (κ : Nat → Int32) : Int32 × (Nat → Int32) := let r1 : Nat → Int32 := va_up κ 0 0; let r2 : Nat → Int32 := va_up r1 2 0; (r1 2, r2)
set_option maxRecDepth 100000 in
set_option maxHeartbeats 4000000 in
theorem c_X10_clearText {G : Geo} {l : Launch} (hG : GOK G) {h : Hp} {κ : Nat → Int32} (hM : MT G) (hr_36 : h 36 = κ) : CM G l yX10_clearText cX10_clearText 2 (some .int) 0 0 [.ref (gA G 36 0)] h (va_up h 36 ((S_X10_clearText κ).2)) (some (.int ((S_X10_clearText κ).1))) := by
  obtain ⟨Z, hZ⟩ : ∃ Z, S_X10_clearText κ = Z := ⟨_, rfl⟩
  rw [hZ]
  refine q_enter hG mf_X10_clearText (Nat.le_of_ble_eq_true rfl) ?_
  intro p e s m below meth c X hret
  have hT_36 : gT G 36 = 9 := hM 36 (by decide) (by decide)
  refine q_lv (lv2 := [(0, .ref (gA G 36 0))]) rfl ?_
  refine q_aload_n X 0 dX10_clearText_0 rfl ?_
  refine q_iconst (v := 0) X dX10_clearText_1 (by decide) ?_
  obtain ⟨r1, e_r1⟩ : ∃ z : Nat → Int32, z = va_up κ 0 0 := ⟨_, rfl⟩
  refine q_put (fk := 0) (h2 := va_up h 36 r1) X cf_X10 (ac_9_0 hT_36) (by decide) fl_X10_25 rfl rfl (by rw [hT_36]; rfl) rfl rfl rfl dX10_clearText_2 (hr_36) (by rw [e_r1]) ?_
  refine q_aload_n X 0 dX10_clearText_5 rfl ?_
  refine q_geti (fk := 6) (x := r1 2) X cf_X10 (ac_9_0 hT_36) (by decide) fl_X10_65 rfl rfl dX10_clearText_6 (va_up_self _ _ _) rfl ?_
  refine q_istore_n (lv' := [(1, .int (r1 2)), (0, .ref (gA G 36 0))]) X dX10_clearText_9 (by decide) rfl ?_
  refine q_aload_n X 1 dX10_clearText_10 rfl ?_
  refine q_iconst (v := 0) X dX10_clearText_11 (by decide) ?_
  obtain ⟨r2, e_r2⟩ : ∃ z : Nat → Int32, z = va_up r1 2 0 := ⟨_, rfl⟩
  refine q_put (fk := 6) (h2 := va_up h 36 r2) X cf_X10 (ac_9_0 hT_36) (by decide) fl_X10_65 rfl rfl (by rw [hT_36]; rfl) rfl rfl rfl dX10_clearText_12 (va_up_self _ _ _) (by rw [e_r2, va_up_up]) ?_
  refine q_iload_n X 0 dX10_clearText_15 rfl ?_
  have E : Z = (r1 2, r2) := by subst e_r2; subst e_r1; exact hZ.symm.trans (rfl)
  exact q_iret X hret dX10_clearText_16 (by rw [E]) (by rw [E])
def L_X10_charge_39 (fu : Nat) (κ : Nat → Int32) (σ : Nat → Int32) (β : Nat → Int32) (ma : Int32) (k : Int32) (κ1 : Nat → Int32) (σ1 : Nat → Int32) (β1 : Nat → Int32) : Int32 × (Nat → Int32) × (Nat → Int32) × (Nat → Int32) := match fu with
  | 0 => (0, (fun _ => 0), (fun _ => 0), (fun _ => 0))
  | fu + 1 => if 32 ≤ k then (let r7 : Nat → Int32 := va_up σ1 1 1; let r8 : Nat → Int32 := va_up r7 16 (r7 3); let r9 : Nat → Int32 := va_up r8 25 (r8 3); let r10 : Nat → Int32 := va_up r9 17 ma; let r11 : Nat → Int32 := va_up r10 23 (-100009); let r12 : Nat → Int32 := va_up r11 24 (-100009); let r13 : Nat → Int32 := va_up r12 13 0; (r13 2, κ1, r13, β1)) else (let r14 : Nat → Int32 := va_up σ1 (Int32.toNatClampNeg k) 0; L_X10_charge_39 fu κ σ β ma (k + 1) κ1 r14 β1)
def S_X10_charge (κ : Nat → Int32) (σ : Nat → Int32) (β : Nat → Int32) (ma : Int32) : Int32 × (Nat → Int32) × (Nat → Int32) × (Nat → Int32) := let r1 : Nat → Int32 := va_up κ 0 0; if (S_X10_in ma 100 1000) = 0 then (((-100001), r1, σ, β)) else (if (σ 1) = 0 then (let r4 : Nat → Int32 := (S_X10_act r1 σ β).1; let r5 : Nat → Int32 := (S_X10_act r1 σ β).2; L_X10_charge_39 33 κ σ β ma 16 r4 σ r5) else (((-100002), r1, σ, β)))
set_option maxRecDepth 100000 in
set_option maxHeartbeats 4000000 in
theorem w_X10_charge_39 {G : Geo} {p : Program} {l : Launch} {e : Env} {s : State} {m : MethodId} {args : Array Value} {below : List Frame} {meth : Method} {c : Code} {h : Hp} {κ : Nat → Int32} {σ : Nat → Int32} {β : Nat → Int32} {ma : Int32} (X : CX G (AA G) p s m meth c RX10 cX10_charge 3) (hret : meth.sig.returnType = (some .int)) (hM : MT G) (hr_36 : h 36 = κ) (hr_37 : h 37 = σ) (hr_39 : h 39 = β) (hsm : 0 ≤ (κ 1).toInt ∧ (κ 1).toInt ≤ 5) (Z : Int32 × (Nat → Int32) × (Nat → Int32) × (Nat → Int32)) : ∀ (fu : Nat) (k : Int32) (κ1 : Nat → Int32) (σ1 : Nat → Int32) (β1 : Nat → Int32), (0 ≤ k.toInt) → ((32 : Int32).toInt - k.toInt).toNat < fu → L_X10_charge_39 fu κ σ β ma k κ1 σ1 β1 = Z → VV G (AA G) p l e { frames := 1, cells := 0, slots := 0, locals := 22 } s m args below meth c 0 0 (MQ below (QC G (va_up (va_up (va_up h 36 Z.2.1) 37 Z.2.2.1) 39 Z.2.2.2) (some (.int Z.1))) args s 0 0 (AA G)) 3 (va_up (va_up (va_up h 36 κ1) 37 σ1) 39 β1) 39 [(0, .ref (gA G 36 0)), (1, .int ma), (2, .int k)] [] := by
  intro fu
  induction fu with
  | zero =>
    intro k κ1 σ1 β1 hk hm
    exact absurd hm (Nat.not_lt_zero _)
  | succ fu ih =>
    intro k κ1 σ1 β1 hk hm hZ
    have hG := X.2.2.2.2.2.1
    have hT_36 : gT G 36 = 9 := hM 36 (by decide) (by decide)
    have hT_37 : gT G 37 = 10 := hM 37 (by decide) (by decide)
    have hT_39 : gT G 39 = 11 := hM 39 (by decide) (by decide)
    refine q_iload_n X 2 dX10_charge_39 rfl ?_
    refine q_bipush (v := 32) X dX10_charge_40 (by decide) ?_
    refine q_icmp_ge (tgt := 58) X dX10_charge_42 (by decide) (fun c6 => ?_) (fun c6 => ?_)
    · skip
      refine q_aload_n X 0 dX10_charge_58 rfl ?_
      refine q_get (fk := 1) (v := .ref (gA G 37 0)) X cf_X10 (ac_9_0 hT_36) (by decide) fl_X10_7 rfl rfl dX10_charge_59 rfl ?_
      refine q_iconst (v := 1) X dX10_charge_62 (by decide) ?_
      refine q_iconst (v := 1) X dX10_charge_63 (by decide) ?_
      obtain ⟨r7, e_r7⟩ : ∃ z : Nat → Int32, z = va_up σ1 1 1 := ⟨_, rfl⟩
      refine q_iast (h2 := va_up (va_up (va_up h 36 κ1) 39 β1) 37 r7) X (ac_10_0 hT_37) (by rw [hT_37]; exact vin_lit (by decide)) dX10_charge_64 ((va_up_ne _ _ (by decide)).trans (va_up_self _ _ _)) (by rw [show 0 + 1 * Int32.toNatClampNeg 1 = 1 from rfl, ← e_r7]; funext x; simp only [va_up]; (repeat' split) <;> first | rfl | omega) ?_
      refine q_aload_n X 0 dX10_charge_65 rfl ?_
      refine q_get (fk := 1) (v := .ref (gA G 37 0)) X cf_X10 (ac_9_0 hT_36) (by decide) fl_X10_7 rfl rfl dX10_charge_66 rfl ?_
      refine q_bipush (v := 16) X dX10_charge_69 (by decide) ?_
      refine q_aload_n X 0 dX10_charge_71 rfl ?_
      refine q_get (fk := 1) (v := .ref (gA G 37 0)) X cf_X10 (ac_9_0 hT_36) (by decide) fl_X10_7 rfl rfl dX10_charge_72 rfl ?_
      refine q_iconst (v := 3) X dX10_charge_75 (by decide) ?_
      refine q_iald (x := r7 3) X (ac_10_0 hT_37) (by rw [hT_37]; exact vin_lit (by decide)) dX10_charge_76 (va_up_self _ _ _) rfl ?_
      obtain ⟨r8, e_r8⟩ : ∃ z : Nat → Int32, z = va_up r7 16 (r7 3) := ⟨_, rfl⟩
      refine q_iast (h2 := va_up (va_up (va_up h 36 κ1) 39 β1) 37 r8) X (ac_10_0 hT_37) (by rw [hT_37]; exact vin_lit (by decide)) dX10_charge_77 (va_up_self _ _ _) (by rw [show 0 + 1 * Int32.toNatClampNeg 16 = 16 from rfl, e_r8, va_up_up]) ?_
      refine q_aload_n X 0 dX10_charge_78 rfl ?_
      refine q_get (fk := 1) (v := .ref (gA G 37 0)) X cf_X10 (ac_9_0 hT_36) (by decide) fl_X10_7 rfl rfl dX10_charge_79 rfl ?_
      refine q_bipush (v := 25) X dX10_charge_82 (by decide) ?_
      refine q_aload_n X 0 dX10_charge_84 rfl ?_
      refine q_get (fk := 1) (v := .ref (gA G 37 0)) X cf_X10 (ac_9_0 hT_36) (by decide) fl_X10_7 rfl rfl dX10_charge_85 rfl ?_
      refine q_iconst (v := 3) X dX10_charge_88 (by decide) ?_
      refine q_iald (x := r8 3) X (ac_10_0 hT_37) (by rw [hT_37]; exact vin_lit (by decide)) dX10_charge_89 (va_up_self _ _ _) rfl ?_
      obtain ⟨r9, e_r9⟩ : ∃ z : Nat → Int32, z = va_up r8 25 (r8 3) := ⟨_, rfl⟩
      refine q_iast (h2 := va_up (va_up (va_up h 36 κ1) 39 β1) 37 r9) X (ac_10_0 hT_37) (by rw [hT_37]; exact vin_lit (by decide)) dX10_charge_90 (va_up_self _ _ _) (by rw [show 0 + 1 * Int32.toNatClampNeg 25 = 25 from rfl, e_r9, va_up_up]) ?_
      refine q_aload_n X 0 dX10_charge_91 rfl ?_
      refine q_get (fk := 1) (v := .ref (gA G 37 0)) X cf_X10 (ac_9_0 hT_36) (by decide) fl_X10_7 rfl rfl dX10_charge_92 rfl ?_
      refine q_bipush (v := 17) X dX10_charge_95 (by decide) ?_
      refine q_iload_n X 1 dX10_charge_97 rfl ?_
      obtain ⟨r10, e_r10⟩ : ∃ z : Nat → Int32, z = va_up r9 17 ma := ⟨_, rfl⟩
      refine q_iast (h2 := va_up (va_up (va_up h 36 κ1) 39 β1) 37 r10) X (ac_10_0 hT_37) (by rw [hT_37]; exact vin_lit (by decide)) dX10_charge_98 (va_up_self _ _ _) (by rw [show 0 + 1 * Int32.toNatClampNeg 17 = 17 from rfl, e_r10, va_up_up]) ?_
      refine q_aload_n X 0 dX10_charge_99 rfl ?_
      refine q_get (fk := 1) (v := .ref (gA G 37 0)) X cf_X10 (ac_9_0 hT_36) (by decide) fl_X10_7 rfl rfl dX10_charge_100 rfl ?_
      refine q_bipush (v := 23) X dX10_charge_103 (by decide) ?_
      refine q_ldc X kc_X10_81 dX10_charge_105 ?_
      obtain ⟨r11, e_r11⟩ : ∃ z : Nat → Int32, z = va_up r10 23 (-100009) := ⟨_, rfl⟩
      refine q_iast (h2 := va_up (va_up (va_up h 36 κ1) 39 β1) 37 r11) X (ac_10_0 hT_37) (by rw [hT_37]; exact vin_lit (by decide)) dX10_charge_107 (va_up_self _ _ _) (by rw [show 0 + 1 * Int32.toNatClampNeg 23 = 23 from rfl, e_r11, va_up_up]) ?_
      refine q_aload_n X 0 dX10_charge_108 rfl ?_
      refine q_get (fk := 1) (v := .ref (gA G 37 0)) X cf_X10 (ac_9_0 hT_36) (by decide) fl_X10_7 rfl rfl dX10_charge_109 rfl ?_
      refine q_bipush (v := 24) X dX10_charge_112 (by decide) ?_
      refine q_ldc X kc_X10_81 dX10_charge_114 ?_
      obtain ⟨r12, e_r12⟩ : ∃ z : Nat → Int32, z = va_up r11 24 (-100009) := ⟨_, rfl⟩
      refine q_iast (h2 := va_up (va_up (va_up h 36 κ1) 39 β1) 37 r12) X (ac_10_0 hT_37) (by rw [hT_37]; exact vin_lit (by decide)) dX10_charge_116 (va_up_self _ _ _) (by rw [show 0 + 1 * Int32.toNatClampNeg 24 = 24 from rfl, e_r12, va_up_up]) ?_
      refine q_aload_n X 0 dX10_charge_117 rfl ?_
      refine q_get (fk := 1) (v := .ref (gA G 37 0)) X cf_X10 (ac_9_0 hT_36) (by decide) fl_X10_7 rfl rfl dX10_charge_118 rfl ?_
      refine q_bipush (v := 13) X dX10_charge_121 (by decide) ?_
      refine q_iconst (v := 0) X dX10_charge_123 (by decide) ?_
      obtain ⟨r13, e_r13⟩ : ∃ z : Nat → Int32, z = va_up r12 13 0 := ⟨_, rfl⟩
      refine q_iast (h2 := va_up (va_up (va_up h 36 κ1) 39 β1) 37 r13) X (ac_10_0 hT_37) (by rw [hT_37]; exact vin_lit (by decide)) dX10_charge_124 (va_up_self _ _ _) (by rw [show 0 + 1 * Int32.toNatClampNeg 13 = 13 from rfl, e_r13, va_up_up]) ?_
      refine q_aload_n X 0 dX10_charge_125 rfl ?_
      refine q_get (fk := 1) (v := .ref (gA G 37 0)) X cf_X10 (ac_9_0 hT_36) (by decide) fl_X10_7 rfl rfl dX10_charge_126 rfl ?_
      refine q_iconst (v := 2) X dX10_charge_129 (by decide) ?_
      refine q_iald (x := r13 2) X (ac_10_0 hT_37) (by rw [hT_37]; exact vin_lit (by decide)) dX10_charge_130 (va_up_self _ _ _) rfl ?_
      have E : Z = (r13 2, κ1, r13, β1) := by subst e_r13; subst e_r12; subst e_r11; subst e_r10; subst e_r9; subst e_r8; subst e_r7; exact hZ.symm.trans ((if_pos c6).trans rfl)
      exact q_iret X hret dX10_charge_131 (by rw [E]) (by rw [E]; (funext x; simp only [va_up]; (repeat' split) <;> first | rfl | omega | (subst_vars; rfl) | (subst_vars; assumption)))
    · skip
      refine q_aload_n X 0 dX10_charge_45 rfl ?_
      refine q_get (fk := 1) (v := .ref (gA G 37 0)) X cf_X10 (ac_9_0 hT_36) (by decide) fl_X10_7 rfl rfl dX10_charge_46 rfl ?_
      refine q_iload_n X 2 dX10_charge_49 rfl ?_
      refine q_iconst (v := 0) X dX10_charge_50 (by decide) ?_
      obtain ⟨r14, e_r14⟩ : ∃ z : Nat → Int32, z = va_up σ1 (Int32.toNatClampNeg k) 0 := ⟨_, rfl⟩
      refine q_iast (h2 := va_up (va_up (va_up h 36 κ1) 39 β1) 37 r14) X (ac_10_0 hT_37) (by rw [hT_37]; exact vin_i hk (Int.lt_trans (nle c6) (by decide))) dX10_charge_51 ((va_up_ne _ _ (by decide)).trans (va_up_self _ _ _)) (by rw [Nat.zero_add, Nat.one_mul, ← e_r14]; funext x; simp only [va_up]; (repeat' split) <;> first | rfl | omega) ?_
      refine q_iinc (v := k + 1) (lv' := [(2, .int (k + 1)), (0, .ref (gA G 36 0)), (1, .int ma)]) X 2 dX10_charge_52 rfl rfl (by decide) rfl ?_
      refine q_goto (tgt := 39) X dX10_charge_55 (by decide) ?_
      refine q_sub (lv2 := [(0, .ref (gA G 36 0)), (1, .int ma), (2, .int (k + 1))]) [1, 2, 0] rfl ?_
      refine q_eq (h2 := va_up (va_up (va_up h 36 κ1) 37 r14) 39 β1) (by funext x; simp only [va_up]; (repeat' split) <;> first | rfl | omega) rfl ?_
      have E : L_X10_charge_39 fu κ σ β ma (k + 1) κ1 r14 β1 = Z := Eq.trans (Eq.symm (by subst e_r14; exact (if_neg c6).trans rfl)) hZ
      exact ih (k + 1) κ1 r14 β1 (by subst e_r14; exact stp c6 hk) (by subst e_r14; exact ms_up c6 hm) E
set_option maxRecDepth 100000 in
set_option maxHeartbeats 4000000 in
theorem c_X10_charge {G : Geo} {l : Launch} (hG : GOK G) {h : Hp} {κ : Nat → Int32} {σ : Nat → Int32} {β : Nat → Int32} (ma : Int32) (hM : MT G) (hr_36 : h 36 = κ) (hr_37 : h 37 = σ) (hr_39 : h 39 = β) (hsm : 0 ≤ (κ 1).toInt ∧ (κ 1).toInt ≤ 5) : CM G l yX10_charge cX10_charge 3 (some .int) 1 22 [.ref (gA G 36 0), .int ma] h (va_up (va_up (va_up h 36 ((S_X10_charge κ σ β ma).2.1)) 37 ((S_X10_charge κ σ β ma).2.2.1)) 39 ((S_X10_charge κ σ β ma).2.2.2)) (some (.int ((S_X10_charge κ σ β ma).1))) := by
  obtain ⟨Z, hZ⟩ : ∃ Z, S_X10_charge κ σ β ma = Z := ⟨_, rfl⟩
  rw [hZ]
  refine q_enter hG mf_X10_charge (Nat.le_of_ble_eq_true rfl) ?_
  intro p e s m below meth c X hret
  have hT_36 : gT G 36 = 9 := hM 36 (by decide) (by decide)
  have hT_37 : gT G 37 = 10 := hM 37 (by decide) (by decide)
  have hT_39 : gT G 39 = 11 := hM 39 (by decide) (by decide)
  refine q_lv (lv2 := [(0, .ref (gA G 36 0)), (1, .int ma)]) rfl ?_
  refine q_aload_n X 0 dX10_charge_0 rfl ?_
  refine q_iconst (v := 0) X dX10_charge_1 (by decide) ?_
  obtain ⟨r1, e_r1⟩ : ∃ z : Nat → Int32, z = va_up κ 0 0 := ⟨_, rfl⟩
  refine q_put (fk := 0) (h2 := va_up h 36 r1) X cf_X10 (ac_9_0 hT_36) (by decide) fl_X10_25 rfl rfl (by rw [hT_36]; rfl) rfl rfl rfl dX10_charge_2 (hr_36) (by rw [e_r1]) ?_
  refine q_iload_n X 1 dX10_charge_5 rfl ?_
  refine q_bipush (v := 100) X dX10_charge_6 (by decide) ?_
  refine q_sipush (v := 1000) X dX10_charge_8 (by decide) ?_
  refine q_callS (h1 := _) (rest := []) (As := [.int ma, .int 100, .int 1000]) X (c_X10_in (l := l) hG   ma 100 1000 ) mf_X10_in ms_X10_in lk_X10_39 rfl ⟨by decide, by decide⟩ ⟨Nat.le_refl _, Nat.le_refl _⟩ rfl (Nat.le_of_ble_eq_true rfl) dX10_charge_11 (st2 := [.int (S_X10_in ma 100 1000)]) rfl ?_
  refine q_if_ne (tgt := 20) X dX10_charge_14 (by decide) (fun c2 => ?_) (fun c2 => ?_)
  · skip
    refine q_aload_n X 0 dX10_charge_20 rfl ?_
    refine q_get (fk := 1) (v := .ref (gA G 37 0)) X cf_X10 (ac_9_0 hT_36) (by decide) fl_X10_7 rfl rfl dX10_charge_21 rfl ?_
    refine q_iconst (v := 1) X dX10_charge_24 (by decide) ?_
    refine q_iald (x := σ 1) X (ac_10_0 hT_37) (by rw [hT_37]; exact vin_lit (by decide)) dX10_charge_25 ((va_up_ne _ _ (by decide)).trans (hr_37)) rfl ?_
    refine q_if_eq (tgt := 32) X dX10_charge_26 (by decide) (fun c3 => ?_) (fun c3 => ?_)
    · skip
      refine q_aload_n X 0 dX10_charge_32 rfl ?_
      obtain ⟨r4, e_r4⟩ : ∃ z : Nat → Int32, z = (S_X10_act r1 σ β).1 := ⟨_, rfl⟩
      obtain ⟨r5, e_r5⟩ : ∃ z : Nat → Int32, z = (S_X10_act r1 σ β).2 := ⟨_, rfl⟩
      refine q_callV (h1 := _) (rest := []) (As := []) X (c_X10_act (l := l) hG (κ := r1) (σ := σ) (β := β)   hM (va_up_self _ _ _) ((va_up_ne _ _ (by decide)).trans (hr_37)) ((va_up_ne _ _ (by decide)).trans (hr_39)) (by subst_vars; exact hsm)) mf_X10_act mv_X10_act cf_X10 rfl (ac_9_0 hT_36) lk_X10_36 rfl ⟨by decide, by decide⟩ ⟨Nat.le_refl _, Nat.le_refl _⟩ rfl (Nat.le_of_ble_eq_true rfl) dX10_charge_33 (st2 := []) rfl ?_
      refine q_eq (h2 := va_up (va_up h 36 r4) 39 r5) (by rw [← e_r4, ← e_r5]; (funext x; simp only [va_up]; (repeat' split) <;> first | rfl | omega)) rfl ?_
      refine q_bipush (v := 16) X dX10_charge_36 (by decide) ?_
      refine q_istore_n (lv' := [(2, .int 16), (0, .ref (gA G 36 0)), (1, .int ma)]) X dX10_charge_38 (by decide) rfl ?_
      refine q_sub (lv2 := [(0, .ref (gA G 36 0)), (1, .int ma), (2, .int 16)]) [1, 2, 0] rfl ?_
      refine q_eq (h2 := va_up (va_up (va_up h 36 r4) 39 r5) 37 σ) (va_up_id2 ((va_up_ne _ _ (by decide)).trans ((va_up_ne _ _ (by decide)).trans (hr_37)))).symm rfl ?_
      refine q_eq (h2 := va_up (va_up (va_up h 36 r4) 37 σ) 39 r5) (by funext x; simp only [va_up]; (repeat' split) <;> first | rfl | omega) rfl ?_
      have E : L_X10_charge_39 33 κ σ β ma 16 r4 σ r5 = Z := Eq.trans (Eq.symm (by subst e_r5; subst e_r4; subst e_r1; exact (if_neg c2).trans ((if_pos c3).trans rfl))) hZ
      exact w_X10_charge_39 X hret hM hr_36 hr_37 hr_39 hsm Z 33 16 r4 σ r5 (by subst e_r5; subst e_r4; subst e_r1; decide) (by subst e_r5; subst e_r4; subst e_r1; decide) E
    · skip
      refine q_ldc X kc_X10_61 dX10_charge_29 ?_
      have E : Z = ((-100002), r1, σ, β) := by subst e_r1; exact hZ.symm.trans ((if_neg c2).trans ((if_neg c3).trans rfl))
      exact q_iret X hret dX10_charge_31 (by rw [E]) (by rw [E]; (funext x; simp only [va_up]; (repeat' split) <;> first | rfl | omega | (subst_vars; rfl) | (subst_vars; assumption)))
  · skip
    refine q_ldc X kc_X10_47 dX10_charge_17 ?_
    have E : Z = ((-100001), r1, σ, β) := by subst e_r1; exact hZ.symm.trans ((if_pos c2).trans rfl)
    exact q_iret X hret dX10_charge_19 (by rw [E]) (by rw [E]; (funext x; simp only [va_up]; (repeat' split) <;> first | rfl | omega | (subst_vars; rfl) | (subst_vars; assumption)))
def L_X10_drop_40 (fu : Nat) (κ : Nat → Int32) (σ : Nat → Int32) (β : Nat → Int32) (aa : Int32) (κ1 : Nat → Int32) (σ1 : Nat → Int32) (β1 : Nat → Int32) : Int32 × (Nat → Int32) × (Nat → Int32) × (Nat → Int32) := match fu with
  | 0 => (0, (fun _ => 0), (fun _ => 0), (fun _ => 0))
  | fu + 1 => if aa < 70 then (let r8 : Nat → Int32 := va_up σ1 64 (σ1 62); let r9 : Nat → Int32 := va_up r8 65 (r8 18); let r10 : Nat → Int32 := va_up r9 66 (r9 23); let r11 : Nat → Int32 := va_up r10 67 (r10 24); let r12 : Nat → Int32 := va_up r11 68 (r11 19); let r13 : Nat → Int32 := va_up r12 69 (r12 25); let r14 : Nat → Int32 := va_up r13 63 (S_X10_clamp ((r13 63) + 1) 0 8); let r15 : Nat → Int32 := va_up r14 5 (S_X10_clamp ((r14 5) + (r14 6)) 1 60); (r15 19, κ1, r15, β1)) else (let r16 : Nat → Int32 := va_up σ1 (Int32.toNatClampNeg aa) (σ1 (Int32.toNatClampNeg (aa - 6))); L_X10_drop_40 fu κ σ β (aa + (-1)) κ1 r16 β1)
def S_X10_drop (κ : Nat → Int32) (σ : Nat → Int32) (β : Nat → Int32) : Int32 × (Nat → Int32) × (Nat → Int32) × (Nat → Int32) := let r1 : Nat → Int32 := va_up κ 0 0; if (S_X10_isRoasting σ) = 0 then (((-100002), r1, σ, β)) else (let r3 : Nat → Int32 := (S_X10_act r1 σ β).1; let r4 : Nat → Int32 := (S_X10_act r1 σ β).2; let r5 : Nat → Int32 := va_up σ 1 2; let r6 : Nat → Int32 := va_up r5 62 ((r5 62) + 1); L_X10_drop_40 43 κ σ β 111 r3 r6 r4)
set_option maxRecDepth 100000 in
set_option maxHeartbeats 4000000 in
theorem w_X10_drop_40 {G : Geo} {p : Program} {l : Launch} {e : Env} {s : State} {m : MethodId} {args : Array Value} {below : List Frame} {meth : Method} {c : Code} {h : Hp} {κ : Nat → Int32} {σ : Nat → Int32} {β : Nat → Int32} (X : CX G (AA G) p s m meth c RX10 cX10_drop 2) (hret : meth.sig.returnType = (some .int)) (hM : MT G) (hr_36 : h 36 = κ) (hr_37 : h 37 = σ) (hr_39 : h 39 = β) (hsm : 0 ≤ (κ 1).toInt ∧ (κ 1).toInt ≤ 5) (Z : Int32 × (Nat → Int32) × (Nat → Int32) × (Nat → Int32)) : ∀ (fu : Nat) (aa : Int32) (κ1 : Nat → Int32) (σ1 : Nat → Int32) (β1 : Nat → Int32), (aa.toInt ≤ 111) → (aa.toInt + 1 - (70 : Int32).toInt).toNat < fu → L_X10_drop_40 fu κ σ β aa κ1 σ1 β1 = Z → VV G (AA G) p l e { frames := 1, cells := 0, slots := 0, locals := 22 } s m args below meth c 0 0 (MQ below (QC G (va_up (va_up (va_up h 36 Z.2.1) 37 Z.2.2.1) 39 Z.2.2.2) (some (.int Z.1))) args s 0 0 (AA G)) 2 (va_up (va_up (va_up h 36 κ1) 37 σ1) 39 β1) 40 [(0, .ref (gA G 36 0)), (1, .int aa)] [] := by
  intro fu
  induction fu with
  | zero =>
    intro aa κ1 σ1 β1 ha hm
    exact absurd hm (Nat.not_lt_zero _)
  | succ fu ih =>
    intro aa κ1 σ1 β1 ha hm hZ
    have hG := X.2.2.2.2.2.1
    have hT_36 : gT G 36 = 9 := hM 36 (by decide) (by decide)
    have hT_37 : gT G 37 = 10 := hM 37 (by decide) (by decide)
    have hT_39 : gT G 39 = 11 := hM 39 (by decide) (by decide)
    refine q_iload_n X 1 dX10_drop_40 rfl ?_
    refine q_bipush (v := 70) X dX10_drop_41 (by decide) ?_
    refine q_icmp_lt (tgt := 67) X dX10_drop_43 (by decide) (fun c7 => ?_) (fun c7 => ?_)
    · skip
      refine q_aload_n X 0 dX10_drop_67 rfl ?_
      refine q_get (fk := 1) (v := .ref (gA G 37 0)) X cf_X10 (ac_9_0 hT_36) (by decide) fl_X10_7 rfl rfl dX10_drop_68 rfl ?_
      refine q_bipush (v := 64) X dX10_drop_71 (by decide) ?_
      refine q_aload_n X 0 dX10_drop_73 rfl ?_
      refine q_get (fk := 1) (v := .ref (gA G 37 0)) X cf_X10 (ac_9_0 hT_36) (by decide) fl_X10_7 rfl rfl dX10_drop_74 rfl ?_
      refine q_bipush (v := 62) X dX10_drop_77 (by decide) ?_
      refine q_iald (x := σ1 62) X (ac_10_0 hT_37) (by rw [hT_37]; exact vin_lit (by decide)) dX10_drop_79 ((va_up_ne _ _ (by decide)).trans (va_up_self _ _ _)) rfl ?_
      obtain ⟨r8, e_r8⟩ : ∃ z : Nat → Int32, z = va_up σ1 64 (σ1 62) := ⟨_, rfl⟩
      refine q_iast (h2 := va_up (va_up (va_up h 36 κ1) 39 β1) 37 r8) X (ac_10_0 hT_37) (by rw [hT_37]; exact vin_lit (by decide)) dX10_drop_80 ((va_up_ne _ _ (by decide)).trans (va_up_self _ _ _)) (by rw [show 0 + 1 * Int32.toNatClampNeg 64 = 64 from rfl, ← e_r8]; funext x; simp only [va_up]; (repeat' split) <;> first | rfl | omega) ?_
      refine q_aload_n X 0 dX10_drop_81 rfl ?_
      refine q_get (fk := 1) (v := .ref (gA G 37 0)) X cf_X10 (ac_9_0 hT_36) (by decide) fl_X10_7 rfl rfl dX10_drop_82 rfl ?_
      refine q_bipush (v := 65) X dX10_drop_85 (by decide) ?_
      refine q_aload_n X 0 dX10_drop_87 rfl ?_
      refine q_get (fk := 1) (v := .ref (gA G 37 0)) X cf_X10 (ac_9_0 hT_36) (by decide) fl_X10_7 rfl rfl dX10_drop_88 rfl ?_
      refine q_bipush (v := 18) X dX10_drop_91 (by decide) ?_
      refine q_iald (x := r8 18) X (ac_10_0 hT_37) (by rw [hT_37]; exact vin_lit (by decide)) dX10_drop_93 (va_up_self _ _ _) rfl ?_
      obtain ⟨r9, e_r9⟩ : ∃ z : Nat → Int32, z = va_up r8 65 (r8 18) := ⟨_, rfl⟩
      refine q_iast (h2 := va_up (va_up (va_up h 36 κ1) 39 β1) 37 r9) X (ac_10_0 hT_37) (by rw [hT_37]; exact vin_lit (by decide)) dX10_drop_94 (va_up_self _ _ _) (by rw [show 0 + 1 * Int32.toNatClampNeg 65 = 65 from rfl, e_r9, va_up_up]) ?_
      refine q_aload_n X 0 dX10_drop_95 rfl ?_
      refine q_get (fk := 1) (v := .ref (gA G 37 0)) X cf_X10 (ac_9_0 hT_36) (by decide) fl_X10_7 rfl rfl dX10_drop_96 rfl ?_
      refine q_bipush (v := 66) X dX10_drop_99 (by decide) ?_
      refine q_aload_n X 0 dX10_drop_101 rfl ?_
      refine q_get (fk := 1) (v := .ref (gA G 37 0)) X cf_X10 (ac_9_0 hT_36) (by decide) fl_X10_7 rfl rfl dX10_drop_102 rfl ?_
      refine q_bipush (v := 23) X dX10_drop_105 (by decide) ?_
      refine q_iald (x := r9 23) X (ac_10_0 hT_37) (by rw [hT_37]; exact vin_lit (by decide)) dX10_drop_107 (va_up_self _ _ _) rfl ?_
      obtain ⟨r10, e_r10⟩ : ∃ z : Nat → Int32, z = va_up r9 66 (r9 23) := ⟨_, rfl⟩
      refine q_iast (h2 := va_up (va_up (va_up h 36 κ1) 39 β1) 37 r10) X (ac_10_0 hT_37) (by rw [hT_37]; exact vin_lit (by decide)) dX10_drop_108 (va_up_self _ _ _) (by rw [show 0 + 1 * Int32.toNatClampNeg 66 = 66 from rfl, e_r10, va_up_up]) ?_
      refine q_aload_n X 0 dX10_drop_109 rfl ?_
      refine q_get (fk := 1) (v := .ref (gA G 37 0)) X cf_X10 (ac_9_0 hT_36) (by decide) fl_X10_7 rfl rfl dX10_drop_110 rfl ?_
      refine q_bipush (v := 67) X dX10_drop_113 (by decide) ?_
      refine q_aload_n X 0 dX10_drop_115 rfl ?_
      refine q_get (fk := 1) (v := .ref (gA G 37 0)) X cf_X10 (ac_9_0 hT_36) (by decide) fl_X10_7 rfl rfl dX10_drop_116 rfl ?_
      refine q_bipush (v := 24) X dX10_drop_119 (by decide) ?_
      refine q_iald (x := r10 24) X (ac_10_0 hT_37) (by rw [hT_37]; exact vin_lit (by decide)) dX10_drop_121 (va_up_self _ _ _) rfl ?_
      obtain ⟨r11, e_r11⟩ : ∃ z : Nat → Int32, z = va_up r10 67 (r10 24) := ⟨_, rfl⟩
      refine q_iast (h2 := va_up (va_up (va_up h 36 κ1) 39 β1) 37 r11) X (ac_10_0 hT_37) (by rw [hT_37]; exact vin_lit (by decide)) dX10_drop_122 (va_up_self _ _ _) (by rw [show 0 + 1 * Int32.toNatClampNeg 67 = 67 from rfl, e_r11, va_up_up]) ?_
      refine q_aload_n X 0 dX10_drop_123 rfl ?_
      refine q_get (fk := 1) (v := .ref (gA G 37 0)) X cf_X10 (ac_9_0 hT_36) (by decide) fl_X10_7 rfl rfl dX10_drop_124 rfl ?_
      refine q_bipush (v := 68) X dX10_drop_127 (by decide) ?_
      refine q_aload_n X 0 dX10_drop_129 rfl ?_
      refine q_get (fk := 1) (v := .ref (gA G 37 0)) X cf_X10 (ac_9_0 hT_36) (by decide) fl_X10_7 rfl rfl dX10_drop_130 rfl ?_
      refine q_bipush (v := 19) X dX10_drop_133 (by decide) ?_
      refine q_iald (x := r11 19) X (ac_10_0 hT_37) (by rw [hT_37]; exact vin_lit (by decide)) dX10_drop_135 (va_up_self _ _ _) rfl ?_
      obtain ⟨r12, e_r12⟩ : ∃ z : Nat → Int32, z = va_up r11 68 (r11 19) := ⟨_, rfl⟩
      refine q_iast (h2 := va_up (va_up (va_up h 36 κ1) 39 β1) 37 r12) X (ac_10_0 hT_37) (by rw [hT_37]; exact vin_lit (by decide)) dX10_drop_136 (va_up_self _ _ _) (by rw [show 0 + 1 * Int32.toNatClampNeg 68 = 68 from rfl, e_r12, va_up_up]) ?_
      refine q_aload_n X 0 dX10_drop_137 rfl ?_
      refine q_get (fk := 1) (v := .ref (gA G 37 0)) X cf_X10 (ac_9_0 hT_36) (by decide) fl_X10_7 rfl rfl dX10_drop_138 rfl ?_
      refine q_bipush (v := 69) X dX10_drop_141 (by decide) ?_
      refine q_aload_n X 0 dX10_drop_143 rfl ?_
      refine q_get (fk := 1) (v := .ref (gA G 37 0)) X cf_X10 (ac_9_0 hT_36) (by decide) fl_X10_7 rfl rfl dX10_drop_144 rfl ?_
      refine q_bipush (v := 25) X dX10_drop_147 (by decide) ?_
      refine q_iald (x := r12 25) X (ac_10_0 hT_37) (by rw [hT_37]; exact vin_lit (by decide)) dX10_drop_149 (va_up_self _ _ _) rfl ?_
      obtain ⟨r13, e_r13⟩ : ∃ z : Nat → Int32, z = va_up r12 69 (r12 25) := ⟨_, rfl⟩
      refine q_iast (h2 := va_up (va_up (va_up h 36 κ1) 39 β1) 37 r13) X (ac_10_0 hT_37) (by rw [hT_37]; exact vin_lit (by decide)) dX10_drop_150 (va_up_self _ _ _) (by rw [show 0 + 1 * Int32.toNatClampNeg 69 = 69 from rfl, e_r13, va_up_up]) ?_
      refine q_aload_n X 0 dX10_drop_151 rfl ?_
      refine q_get (fk := 1) (v := .ref (gA G 37 0)) X cf_X10 (ac_9_0 hT_36) (by decide) fl_X10_7 rfl rfl dX10_drop_152 rfl ?_
      refine q_bipush (v := 63) X dX10_drop_155 (by decide) ?_
      refine q_aload_n X 0 dX10_drop_157 rfl ?_
      refine q_get (fk := 1) (v := .ref (gA G 37 0)) X cf_X10 (ac_9_0 hT_36) (by decide) fl_X10_7 rfl rfl dX10_drop_158 rfl ?_
      refine q_bipush (v := 63) X dX10_drop_161 (by decide) ?_
      refine q_iald (x := r13 63) X (ac_10_0 hT_37) (by rw [hT_37]; exact vin_lit (by decide)) dX10_drop_163 (va_up_self _ _ _) rfl ?_
      refine q_iconst (v := 1) X dX10_drop_164 (by decide) ?_
      refine q_iadd X dX10_drop_165 ?_
      refine q_iconst (v := 0) X dX10_drop_166 (by decide) ?_
      refine q_bipush (v := 8) X dX10_drop_167 (by decide) ?_
      refine q_callS (h1 := _) (rest := [.int 63, .ref (gA G 37 0)]) (As := [.int ((r13 63) + 1), .int 0, .int 8]) X (c_X10_clamp (l := l) hG   ((r13 63) + 1) 0 8 ) mf_X10_clamp ms_X10_clamp lk_X10_100 rfl ⟨by decide, by decide⟩ ⟨Nat.le_refl _, Nat.le_refl _⟩ rfl (Nat.le_of_ble_eq_true rfl) dX10_drop_169 (st2 := [.int (S_X10_clamp ((r13 63) + 1) 0 8), .int 63, .ref (gA G 37 0)]) rfl ?_
      obtain ⟨r14, e_r14⟩ : ∃ z : Nat → Int32, z = va_up r13 63 (S_X10_clamp ((r13 63) + 1) 0 8) := ⟨_, rfl⟩
      refine q_iast (h2 := va_up (va_up (va_up h 36 κ1) 39 β1) 37 r14) X (ac_10_0 hT_37) (by rw [hT_37]; exact vin_lit (by decide)) dX10_drop_172 (va_up_self _ _ _) (by rw [show 0 + 1 * Int32.toNatClampNeg 63 = 63 from rfl, e_r14, va_up_up]) ?_
      refine q_aload_n X 0 dX10_drop_173 rfl ?_
      refine q_get (fk := 1) (v := .ref (gA G 37 0)) X cf_X10 (ac_9_0 hT_36) (by decide) fl_X10_7 rfl rfl dX10_drop_174 rfl ?_
      refine q_iconst (v := 5) X dX10_drop_177 (by decide) ?_
      refine q_aload_n X 0 dX10_drop_178 rfl ?_
      refine q_get (fk := 1) (v := .ref (gA G 37 0)) X cf_X10 (ac_9_0 hT_36) (by decide) fl_X10_7 rfl rfl dX10_drop_179 rfl ?_
      refine q_iconst (v := 5) X dX10_drop_182 (by decide) ?_
      refine q_iald (x := r14 5) X (ac_10_0 hT_37) (by rw [hT_37]; exact vin_lit (by decide)) dX10_drop_183 (va_up_self _ _ _) rfl ?_
      refine q_aload_n X 0 dX10_drop_184 rfl ?_
      refine q_get (fk := 1) (v := .ref (gA G 37 0)) X cf_X10 (ac_9_0 hT_36) (by decide) fl_X10_7 rfl rfl dX10_drop_185 rfl ?_
      refine q_bipush (v := 6) X dX10_drop_188 (by decide) ?_
      refine q_iald (x := r14 6) X (ac_10_0 hT_37) (by rw [hT_37]; exact vin_lit (by decide)) dX10_drop_190 (va_up_self _ _ _) rfl ?_
      refine q_iadd X dX10_drop_191 ?_
      refine q_iconst (v := 1) X dX10_drop_192 (by decide) ?_
      refine q_bipush (v := 60) X dX10_drop_193 (by decide) ?_
      refine q_callS (h1 := _) (rest := [.int 5, .ref (gA G 37 0)]) (As := [.int ((r14 5) + (r14 6)), .int 1, .int 60]) X (c_X10_clamp (l := l) hG   ((r14 5) + (r14 6)) 1 60 ) mf_X10_clamp ms_X10_clamp lk_X10_100 rfl ⟨by decide, by decide⟩ ⟨Nat.le_refl _, Nat.le_refl _⟩ rfl (Nat.le_of_ble_eq_true rfl) dX10_drop_195 (st2 := [.int (S_X10_clamp ((r14 5) + (r14 6)) 1 60), .int 5, .ref (gA G 37 0)]) rfl ?_
      obtain ⟨r15, e_r15⟩ : ∃ z : Nat → Int32, z = va_up r14 5 (S_X10_clamp ((r14 5) + (r14 6)) 1 60) := ⟨_, rfl⟩
      refine q_iast (h2 := va_up (va_up (va_up h 36 κ1) 39 β1) 37 r15) X (ac_10_0 hT_37) (by rw [hT_37]; exact vin_lit (by decide)) dX10_drop_198 (va_up_self _ _ _) (by rw [show 0 + 1 * Int32.toNatClampNeg 5 = 5 from rfl, e_r15, va_up_up]) ?_
      refine q_aload_n X 0 dX10_drop_199 rfl ?_
      refine q_get (fk := 1) (v := .ref (gA G 37 0)) X cf_X10 (ac_9_0 hT_36) (by decide) fl_X10_7 rfl rfl dX10_drop_200 rfl ?_
      refine q_bipush (v := 19) X dX10_drop_203 (by decide) ?_
      refine q_iald (x := r15 19) X (ac_10_0 hT_37) (by rw [hT_37]; exact vin_lit (by decide)) dX10_drop_205 (va_up_self _ _ _) rfl ?_
      have E : Z = (r15 19, κ1, r15, β1) := by subst e_r15; subst e_r14; subst e_r13; subst e_r12; subst e_r11; subst e_r10; subst e_r9; subst e_r8; exact hZ.symm.trans ((if_pos c7).trans rfl)
      exact q_iret X hret dX10_drop_206 (by rw [E]) (by rw [E]; (funext x; simp only [va_up]; (repeat' split) <;> first | rfl | omega | (subst_vars; rfl) | (subst_vars; assumption)))
    · skip
      refine q_aload_n X 0 dX10_drop_46 rfl ?_
      refine q_get (fk := 1) (v := .ref (gA G 37 0)) X cf_X10 (ac_9_0 hT_36) (by decide) fl_X10_7 rfl rfl dX10_drop_47 rfl ?_
      refine q_iload_n X 1 dX10_drop_50 rfl ?_
      refine q_aload_n X 0 dX10_drop_51 rfl ?_
      refine q_get (fk := 1) (v := .ref (gA G 37 0)) X cf_X10 (ac_9_0 hT_36) (by decide) fl_X10_7 rfl rfl dX10_drop_52 rfl ?_
      refine q_iload_n X 1 dX10_drop_55 rfl ?_
      refine q_bipush (v := 6) X dX10_drop_56 (by decide) ?_
      refine q_isub X dX10_drop_58 ?_
      refine q_iald (x := σ1 (Int32.toNatClampNeg (aa - 6))) X (ac_10_0 hT_37) (by rw [hT_37]; exact (ix_drop ha c7).2.1) dX10_drop_59 ((va_up_ne _ _ (by decide)).trans (va_up_self _ _ _)) (by rw [Nat.zero_add, Nat.one_mul]) ?_
      obtain ⟨r16, e_r16⟩ : ∃ z : Nat → Int32, z = va_up σ1 (Int32.toNatClampNeg aa) (σ1 (Int32.toNatClampNeg (aa - 6))) := ⟨_, rfl⟩
      refine q_iast (h2 := va_up (va_up (va_up h 36 κ1) 39 β1) 37 r16) X (ac_10_0 hT_37) (by rw [hT_37]; exact (ix_drop ha c7).1) dX10_drop_60 ((va_up_ne _ _ (by decide)).trans (va_up_self _ _ _)) (by rw [Nat.zero_add, Nat.one_mul, ← e_r16]; funext x; simp only [va_up]; (repeat' split) <;> first | rfl | omega) ?_
      refine q_iinc (v := aa + (-1)) (lv' := [(1, .int (aa + (-1))), (0, .ref (gA G 36 0))]) X 1 dX10_drop_61 rfl rfl (by decide) rfl ?_
      refine q_goto (tgt := 40) X dX10_drop_64 (by decide) ?_
      refine q_sub (lv2 := [(0, .ref (gA G 36 0)), (1, .int (aa + (-1)))]) [1, 0] rfl ?_
      refine q_eq (h2 := va_up (va_up (va_up h 36 κ1) 37 r16) 39 β1) (by funext x; simp only [va_up]; (repeat' split) <;> first | rfl | omega) rfl ?_
      have E : L_X10_drop_40 fu κ σ β (aa + (-1)) κ1 r16 β1 = Z := Eq.trans (Eq.symm (by subst e_r16; exact (if_neg c7).trans rfl)) hZ
      exact ih (aa + (-1)) κ1 r16 β1 (by subst e_r16; exact (ix_drop ha c7).2.2) (by subst e_r16; exact ms_dlt (by decide) c7 hm) E
set_option maxRecDepth 100000 in
set_option maxHeartbeats 4000000 in
theorem c_X10_drop {G : Geo} {l : Launch} (hG : GOK G) {h : Hp} {κ : Nat → Int32} {σ : Nat → Int32} {β : Nat → Int32} (hM : MT G) (hr_36 : h 36 = κ) (hr_37 : h 37 = σ) (hr_39 : h 39 = β) (hsm : 0 ≤ (κ 1).toInt ∧ (κ 1).toInt ≤ 5) : CM G l yX10_drop cX10_drop 2 (some .int) 1 22 [.ref (gA G 36 0)] h (va_up (va_up (va_up h 36 ((S_X10_drop κ σ β).2.1)) 37 ((S_X10_drop κ σ β).2.2.1)) 39 ((S_X10_drop κ σ β).2.2.2)) (some (.int ((S_X10_drop κ σ β).1))) := by
  obtain ⟨Z, hZ⟩ : ∃ Z, S_X10_drop κ σ β = Z := ⟨_, rfl⟩
  rw [hZ]
  refine q_enter hG mf_X10_drop (Nat.le_of_ble_eq_true rfl) ?_
  intro p e s m below meth c X hret
  have hT_36 : gT G 36 = 9 := hM 36 (by decide) (by decide)
  have hT_37 : gT G 37 = 10 := hM 37 (by decide) (by decide)
  have hT_39 : gT G 39 = 11 := hM 39 (by decide) (by decide)
  refine q_lv (lv2 := [(0, .ref (gA G 36 0))]) rfl ?_
  refine q_aload_n X 0 dX10_drop_0 rfl ?_
  refine q_iconst (v := 0) X dX10_drop_1 (by decide) ?_
  obtain ⟨r1, e_r1⟩ : ∃ z : Nat → Int32, z = va_up κ 0 0 := ⟨_, rfl⟩
  refine q_put (fk := 0) (h2 := va_up h 36 r1) X cf_X10 (ac_9_0 hT_36) (by decide) fl_X10_25 rfl rfl (by rw [hT_36]; rfl) rfl rfl rfl dX10_drop_2 (hr_36) (by rw [e_r1]) ?_
  refine q_aload_n X 0 dX10_drop_5 rfl ?_
  refine q_callV (h1 := _) (rest := []) (As := []) X (c_X10_isRoasting (l := l) hG (σ := σ)   hM ((va_up_ne _ _ (by decide)).trans (hr_37))) mf_X10_isRoasting mv_X10_isRoasting cf_X10 rfl (ac_9_0 hT_36) lk_X10_96 rfl ⟨by decide, by decide⟩ ⟨Nat.le_refl _, Nat.le_refl _⟩ rfl (Nat.le_of_ble_eq_true rfl) dX10_drop_6 (st2 := [.int (S_X10_isRoasting σ)]) rfl ?_
  refine q_if_ne (tgt := 15) X dX10_drop_9 (by decide) (fun c2 => ?_) (fun c2 => ?_)
  · skip
    refine q_aload_n X 0 dX10_drop_15 rfl ?_
    obtain ⟨r3, e_r3⟩ : ∃ z : Nat → Int32, z = (S_X10_act r1 σ β).1 := ⟨_, rfl⟩
    obtain ⟨r4, e_r4⟩ : ∃ z : Nat → Int32, z = (S_X10_act r1 σ β).2 := ⟨_, rfl⟩
    refine q_callV (h1 := _) (rest := []) (As := []) X (c_X10_act (l := l) hG (κ := r1) (σ := σ) (β := β)   hM (va_up_self _ _ _) ((va_up_ne _ _ (by decide)).trans (hr_37)) ((va_up_ne _ _ (by decide)).trans (hr_39)) (by subst_vars; exact hsm)) mf_X10_act mv_X10_act cf_X10 rfl (ac_9_0 hT_36) lk_X10_36 rfl ⟨by decide, by decide⟩ ⟨Nat.le_refl _, Nat.le_refl _⟩ rfl (Nat.le_of_ble_eq_true rfl) dX10_drop_16 (st2 := []) rfl ?_
    refine q_eq (h2 := va_up (va_up h 36 r3) 39 r4) (by rw [← e_r3, ← e_r4]; (funext x; simp only [va_up]; (repeat' split) <;> first | rfl | omega)) rfl ?_
    refine q_aload_n X 0 dX10_drop_19 rfl ?_
    refine q_get (fk := 1) (v := .ref (gA G 37 0)) X cf_X10 (ac_9_0 hT_36) (by decide) fl_X10_7 rfl rfl dX10_drop_20 rfl ?_
    refine q_iconst (v := 1) X dX10_drop_23 (by decide) ?_
    refine q_iconst (v := 2) X dX10_drop_24 (by decide) ?_
    obtain ⟨r5, e_r5⟩ : ∃ z : Nat → Int32, z = va_up σ 1 2 := ⟨_, rfl⟩
    refine q_iast (h2 := va_up (va_up (va_up h 36 r3) 39 r4) 37 r5) X (ac_10_0 hT_37) (by rw [hT_37]; exact vin_lit (by decide)) dX10_drop_25 ((va_up_ne _ _ (by decide)).trans ((va_up_ne _ _ (by decide)).trans (hr_37))) (by rw [show 0 + 1 * Int32.toNatClampNeg 1 = 1 from rfl, e_r5]) ?_
    refine q_aload_n X 0 dX10_drop_26 rfl ?_
    refine q_get (fk := 1) (v := .ref (gA G 37 0)) X cf_X10 (ac_9_0 hT_36) (by decide) fl_X10_7 rfl rfl dX10_drop_27 rfl ?_
    refine q_bipush (v := 62) X dX10_drop_30 (by decide) ?_
    refine q_dup2 X dX10_drop_32 rfl rfl ?_
    refine q_iald (x := r5 62) X (ac_10_0 hT_37) (by rw [hT_37]; exact vin_lit (by decide)) dX10_drop_33 (va_up_self _ _ _) rfl ?_
    refine q_iconst (v := 1) X dX10_drop_34 (by decide) ?_
    refine q_iadd X dX10_drop_35 ?_
    obtain ⟨r6, e_r6⟩ : ∃ z : Nat → Int32, z = va_up r5 62 ((r5 62) + 1) := ⟨_, rfl⟩
    refine q_iast (h2 := va_up (va_up (va_up h 36 r3) 39 r4) 37 r6) X (ac_10_0 hT_37) (by rw [hT_37]; exact vin_lit (by decide)) dX10_drop_36 (va_up_self _ _ _) (by rw [show 0 + 1 * Int32.toNatClampNeg 62 = 62 from rfl, e_r6, va_up_up]) ?_
    refine q_bipush (v := 111) X dX10_drop_37 (by decide) ?_
    refine q_istore_n (lv' := [(1, .int 111), (0, .ref (gA G 36 0))]) X dX10_drop_39 (by decide) rfl ?_
    refine q_sub (lv2 := [(0, .ref (gA G 36 0)), (1, .int 111)]) [1, 0] rfl ?_
    refine q_eq (h2 := va_up (va_up (va_up h 36 r3) 37 r6) 39 r4) (by funext x; simp only [va_up]; (repeat' split) <;> first | rfl | omega) rfl ?_
    have E : L_X10_drop_40 43 κ σ β 111 r3 r6 r4 = Z := Eq.trans (Eq.symm (by subst e_r6; subst e_r5; subst e_r4; subst e_r3; subst e_r1; exact (if_neg c2).trans rfl)) hZ
    exact w_X10_drop_40 X hret hM hr_36 hr_37 hr_39 hsm Z 43 111 r3 r6 r4 (by subst e_r6; subst e_r5; subst e_r4; subst e_r3; subst e_r1; decide) (by subst e_r6; subst e_r5; subst e_r4; subst e_r3; subst e_r1; decide) E
  · skip
    refine q_ldc X kc_X10_61 dX10_drop_12 ?_
    have E : Z = ((-100002), r1, σ, β) := by subst e_r1; exact hZ.symm.trans ((if_pos c2).trans rfl)
    exact q_iret X hret dX10_drop_14 (by rw [E]) (by rw [E]; (funext x; simp only [va_up]; (repeat' split) <;> first | rfl | omega | (subst_vars; rfl) | (subst_vars; assumption)))
def S_X10_takeAway (κ : Nat → Int32) (σ : Nat → Int32) (β : Nat → Int32) : Int32 × (Nat → Int32) × (Nat → Int32) × (Nat → Int32) := let r1 : Nat → Int32 := va_up κ 0 0; if (σ 1) = 2 then (if (σ 16) ≤ ((σ 3) + 150) then (let r4 : Nat → Int32 := (S_X10_act r1 σ β).1; let r5 : Nat → Int32 := (S_X10_act r1 σ β).2; let r6 : Nat → Int32 := va_up σ 1 0; (r6 16, r4, r6, r5)) else (((-100002), r1, σ, β))) else (((-100002), r1, σ, β))
set_option maxRecDepth 100000 in
set_option maxHeartbeats 4000000 in
theorem c_X10_takeAway {G : Geo} {l : Launch} (hG : GOK G) {h : Hp} {κ : Nat → Int32} {σ : Nat → Int32} {β : Nat → Int32} (hM : MT G) (hr_36 : h 36 = κ) (hr_37 : h 37 = σ) (hr_39 : h 39 = β) (hsm : 0 ≤ (κ 1).toInt ∧ (κ 1).toInt ≤ 5) : CM G l yX10_takeAway cX10_takeAway 1 (some .int) 1 21 [.ref (gA G 36 0)] h (va_up (va_up (va_up h 36 ((S_X10_takeAway κ σ β).2.1)) 37 ((S_X10_takeAway κ σ β).2.2.1)) 39 ((S_X10_takeAway κ σ β).2.2.2)) (some (.int ((S_X10_takeAway κ σ β).1))) := by
  obtain ⟨Z, hZ⟩ : ∃ Z, S_X10_takeAway κ σ β = Z := ⟨_, rfl⟩
  rw [hZ]
  refine q_enter hG mf_X10_takeAway (Nat.le_of_ble_eq_true rfl) ?_
  intro p e s m below meth c X hret
  have hT_36 : gT G 36 = 9 := hM 36 (by decide) (by decide)
  have hT_37 : gT G 37 = 10 := hM 37 (by decide) (by decide)
  have hT_39 : gT G 39 = 11 := hM 39 (by decide) (by decide)
  refine q_lv (lv2 := [(0, .ref (gA G 36 0))]) rfl ?_
  refine q_aload_n X 0 dX10_takeAway_0 rfl ?_
  refine q_iconst (v := 0) X dX10_takeAway_1 (by decide) ?_
  obtain ⟨r1, e_r1⟩ : ∃ z : Nat → Int32, z = va_up κ 0 0 := ⟨_, rfl⟩
  refine q_put (fk := 0) (h2 := va_up h 36 r1) X cf_X10 (ac_9_0 hT_36) (by decide) fl_X10_25 rfl rfl (by rw [hT_36]; rfl) rfl rfl rfl dX10_takeAway_2 (hr_36) (by rw [e_r1]) ?_
  refine q_aload_n X 0 dX10_takeAway_5 rfl ?_
  refine q_get (fk := 1) (v := .ref (gA G 37 0)) X cf_X10 (ac_9_0 hT_36) (by decide) fl_X10_7 rfl rfl dX10_takeAway_6 rfl ?_
  refine q_iconst (v := 1) X dX10_takeAway_9 (by decide) ?_
  refine q_iald (x := σ 1) X (ac_10_0 hT_37) (by rw [hT_37]; exact vin_lit (by decide)) dX10_takeAway_10 ((va_up_ne _ _ (by decide)).trans (hr_37)) rfl ?_
  refine q_iconst (v := 2) X dX10_takeAway_11 (by decide) ?_
  refine q_icmp_ne (tgt := 35) X dX10_takeAway_12 (by decide) (fun c2 => ?_) (fun c2 => ?_)
  · skip
    refine q_ldc X kc_X10_61 dX10_takeAway_35 ?_
    have E : Z = ((-100002), r1, σ, β) := by subst e_r1; exact hZ.symm.trans ((if_neg c2).trans rfl)
    exact q_iret X hret dX10_takeAway_37 (by rw [E]) (by rw [E]; (funext x; simp only [va_up]; (repeat' split) <;> first | rfl | omega | (subst_vars; rfl) | (subst_vars; assumption)))
  · skip
    refine q_aload_n X 0 dX10_takeAway_15 rfl ?_
    refine q_get (fk := 1) (v := .ref (gA G 37 0)) X cf_X10 (ac_9_0 hT_36) (by decide) fl_X10_7 rfl rfl dX10_takeAway_16 rfl ?_
    refine q_bipush (v := 16) X dX10_takeAway_19 (by decide) ?_
    refine q_iald (x := σ 16) X (ac_10_0 hT_37) (by rw [hT_37]; exact vin_lit (by decide)) dX10_takeAway_21 ((va_up_ne _ _ (by decide)).trans (hr_37)) rfl ?_
    refine q_aload_n X 0 dX10_takeAway_22 rfl ?_
    refine q_get (fk := 1) (v := .ref (gA G 37 0)) X cf_X10 (ac_9_0 hT_36) (by decide) fl_X10_7 rfl rfl dX10_takeAway_23 rfl ?_
    refine q_iconst (v := 3) X dX10_takeAway_26 (by decide) ?_
    refine q_iald (x := σ 3) X (ac_10_0 hT_37) (by rw [hT_37]; exact vin_lit (by decide)) dX10_takeAway_27 ((va_up_ne _ _ (by decide)).trans (hr_37)) rfl ?_
    refine q_sipush (v := 150) X dX10_takeAway_28 (by decide) ?_
    refine q_iadd X dX10_takeAway_31 ?_
    refine q_icmp_le (tgt := 38) X dX10_takeAway_32 (by decide) (fun c3 => ?_) (fun c3 => ?_)
    · skip
      refine q_aload_n X 0 dX10_takeAway_38 rfl ?_
      obtain ⟨r4, e_r4⟩ : ∃ z : Nat → Int32, z = (S_X10_act r1 σ β).1 := ⟨_, rfl⟩
      obtain ⟨r5, e_r5⟩ : ∃ z : Nat → Int32, z = (S_X10_act r1 σ β).2 := ⟨_, rfl⟩
      refine q_callV (h1 := _) (rest := []) (As := []) X (c_X10_act (l := l) hG (κ := r1) (σ := σ) (β := β)   hM (va_up_self _ _ _) ((va_up_ne _ _ (by decide)).trans (hr_37)) ((va_up_ne _ _ (by decide)).trans (hr_39)) (by subst_vars; exact hsm)) mf_X10_act mv_X10_act cf_X10 rfl (ac_9_0 hT_36) lk_X10_36 rfl ⟨by decide, by decide⟩ ⟨Nat.le_refl _, Nat.le_refl _⟩ rfl (Nat.le_of_ble_eq_true rfl) dX10_takeAway_39 (st2 := []) rfl ?_
      refine q_eq (h2 := va_up (va_up h 36 r4) 39 r5) (by rw [← e_r4, ← e_r5]; (funext x; simp only [va_up]; (repeat' split) <;> first | rfl | omega)) rfl ?_
      refine q_aload_n X 0 dX10_takeAway_42 rfl ?_
      refine q_get (fk := 1) (v := .ref (gA G 37 0)) X cf_X10 (ac_9_0 hT_36) (by decide) fl_X10_7 rfl rfl dX10_takeAway_43 rfl ?_
      refine q_iconst (v := 1) X dX10_takeAway_46 (by decide) ?_
      refine q_iconst (v := 0) X dX10_takeAway_47 (by decide) ?_
      obtain ⟨r6, e_r6⟩ : ∃ z : Nat → Int32, z = va_up σ 1 0 := ⟨_, rfl⟩
      refine q_iast (h2 := va_up (va_up (va_up h 36 r4) 39 r5) 37 r6) X (ac_10_0 hT_37) (by rw [hT_37]; exact vin_lit (by decide)) dX10_takeAway_48 ((va_up_ne _ _ (by decide)).trans ((va_up_ne _ _ (by decide)).trans (hr_37))) (by rw [show 0 + 1 * Int32.toNatClampNeg 1 = 1 from rfl, e_r6]) ?_
      refine q_aload_n X 0 dX10_takeAway_49 rfl ?_
      refine q_get (fk := 1) (v := .ref (gA G 37 0)) X cf_X10 (ac_9_0 hT_36) (by decide) fl_X10_7 rfl rfl dX10_takeAway_50 rfl ?_
      refine q_bipush (v := 16) X dX10_takeAway_53 (by decide) ?_
      refine q_iald (x := r6 16) X (ac_10_0 hT_37) (by rw [hT_37]; exact vin_lit (by decide)) dX10_takeAway_55 (va_up_self _ _ _) rfl ?_
      have E : Z = (r6 16, r4, r6, r5) := by subst e_r6; subst e_r5; subst e_r4; subst e_r1; exact hZ.symm.trans ((if_pos c2).trans ((if_pos c3).trans rfl))
      exact q_iret X hret dX10_takeAway_56 (by rw [E]) (by rw [E]; (funext x; simp only [va_up]; (repeat' split) <;> first | rfl | omega | (subst_vars; rfl) | (subst_vars; assumption)))
    · skip
      refine q_ldc X kc_X10_61 dX10_takeAway_35 ?_
      have E : Z = ((-100002), r1, σ, β) := by subst e_r1; exact hZ.symm.trans ((if_pos c2).trans ((if_neg c3).trans rfl))
      exact q_iret X hret dX10_takeAway_37 (by rw [E]) (by rw [E]; (funext x; simp only [va_up]; (repeat' split) <;> first | rfl | omega | (subst_vars; rfl) | (subst_vars; assumption)))
def L_X10_run_42 (fu : Nat) (κ : Nat → Int32) (σ : Nat → Int32) (β : Nat → Int32) (ti : Int32) (k : Int32) (κ1 : Nat → Int32) (σ1 : Nat → Int32) (β1 : Nat → Int32) : Int32 × (Nat → Int32) × (Nat → Int32) × (Nat → Int32) := match fu with
  | 0 => (0, (fun _ => 0), (fun _ => 0), (fun _ => 0))
  | fu + 1 => if ti ≤ k then ((σ1 4, κ1, σ1, β1)) else (let r7 : Nat → Int32 := S_X10_tick σ1; L_X10_run_42 fu κ σ β ti (k + 1) κ1 r7 β1)
def S_X10_run (κ : Nat → Int32) (σ : Nat → Int32) (β : Nat → Int32) (ti : Int32) : Int32 × (Nat → Int32) × (Nat → Int32) × (Nat → Int32) := let r1 : Nat → Int32 := va_up κ 0 0; if (S_X10_in ti 1 200) = 0 then (((-100001), r1, σ, β)) else (if ((σ 0) + ti) ≤ 10000 then (let r4 : Nat → Int32 := (S_X10_act r1 σ β).1; let r5 : Nat → Int32 := (S_X10_act r1 σ β).2; L_X10_run_42 ((ti.toInt - (0 : Int32).toInt).toNat + 1) κ σ β ti 0 r4 σ r5) else (((-100003), r1, σ, β)))
set_option maxRecDepth 100000 in
set_option maxHeartbeats 4000000 in
theorem w_X10_run_42 {G : Geo} {p : Program} {l : Launch} {e : Env} {s : State} {m : MethodId} {args : Array Value} {below : List Frame} {meth : Method} {c : Code} {h : Hp} {κ : Nat → Int32} {σ : Nat → Int32} {β : Nat → Int32} {ti : Int32} (X : CX G (AA G) p s m meth c RX10 cX10_run 3) (hret : meth.sig.returnType = (some .int)) (hM : MT G) (hr_36 : h 36 = κ) (hr_37 : h 37 = σ) (hr_39 : h 39 = β) (hsm : 0 ≤ (κ 1).toInt ∧ (κ 1).toInt ≤ 5) (hI : MI σ) (Z : Int32 × (Nat → Int32) × (Nat → Int32) × (Nat → Int32)) : ∀ (fu : Nat) (k : Int32) (κ1 : Nat → Int32) (σ1 : Nat → Int32) (β1 : Nat → Int32), (0 ≤ k.toInt) → (MI σ1) → ((ti : Int32).toInt - k.toInt).toNat < fu → L_X10_run_42 fu κ σ β ti k κ1 σ1 β1 = Z → VV G (AA G) p l e { frames := 4, cells := 0, slots := 0, locals := 92 } s m args below meth c 0 0 (MQ below (QC G (va_up (va_up (va_up h 36 Z.2.1) 37 Z.2.2.1) 39 Z.2.2.2) (some (.int Z.1))) args s 0 0 (AA G)) 3 (va_up (va_up (va_up h 36 κ1) 37 σ1) 39 β1) 42 [(0, .ref (gA G 36 0)), (1, .int ti), (2, .int k)] [] := by
  intro fu
  induction fu with
  | zero =>
    intro k κ1 σ1 β1 hk hI1 hm
    exact absurd hm (Nat.not_lt_zero _)
  | succ fu ih =>
    intro k κ1 σ1 β1 hk hI1 hm hZ
    have hG := X.2.2.2.2.2.1
    have hT_36 : gT G 36 = 9 := hM 36 (by decide) (by decide)
    have hT_37 : gT G 37 = 10 := hM 37 (by decide) (by decide)
    have hT_39 : gT G 39 = 11 := hM 39 (by decide) (by decide)
    refine q_iload_n X 2 dX10_run_42 rfl ?_
    refine q_iload_n X 1 dX10_run_43 rfl ?_
    refine q_icmp_ge (tgt := 57) X dX10_run_44 (by decide) (fun c6 => ?_) (fun c6 => ?_)
    · skip
      refine q_aload_n X 0 dX10_run_57 rfl ?_
      refine q_get (fk := 1) (v := .ref (gA G 37 0)) X cf_X10 (ac_9_0 hT_36) (by decide) fl_X10_7 rfl rfl dX10_run_58 rfl ?_
      refine q_iconst (v := 4) X dX10_run_61 (by decide) ?_
      refine q_iald (x := σ1 4) X (ac_10_0 hT_37) (by rw [hT_37]; exact vin_lit (by decide)) dX10_run_62 ((va_up_ne _ _ (by decide)).trans (va_up_self _ _ _)) rfl ?_
      have E : Z = (σ1 4, κ1, σ1, β1) := by exact hZ.symm.trans ((if_pos c6).trans rfl)
      exact q_iret X hret dX10_run_63 (by rw [E]) (by rw [E])
    · skip
      refine q_aload_n X 0 dX10_run_47 rfl ?_
      obtain ⟨r7, e_r7⟩ : ∃ z : Nat → Int32, z = S_X10_tick σ1 := ⟨_, rfl⟩
      refine q_callV (h1 := _) (rest := []) (As := []) X (c_X10_tick (l := l) hG (σ := σ1)   hM ((va_up_ne _ _ (by decide)).trans (va_up_self _ _ _)) hI1) mf_X10_tick mv_X10_tick cf_X10 rfl (ac_9_0 hT_36) lk_X10_122 rfl ⟨by decide, by decide⟩ ⟨Nat.le_refl _, Nat.le_refl _⟩ rfl (Nat.le_of_ble_eq_true rfl) dX10_run_48 (st2 := []) rfl ?_
      refine q_eq (h2 := va_up (va_up (va_up h 36 κ1) 39 β1) 37 r7) (by rw [← e_r7]; funext x; simp only [va_up]; (repeat' split) <;> first | rfl | omega) rfl ?_
      refine q_iinc (v := k + 1) (lv' := [(2, .int (k + 1)), (0, .ref (gA G 36 0)), (1, .int ti)]) X 2 dX10_run_51 rfl rfl (by decide) rfl ?_
      refine q_goto (tgt := 42) X dX10_run_54 (by decide) ?_
      refine q_sub (lv2 := [(0, .ref (gA G 36 0)), (1, .int ti), (2, .int (k + 1))]) [1, 2, 0] rfl ?_
      refine q_eq (h2 := va_up (va_up (va_up h 36 κ1) 37 r7) 39 β1) (by funext x; simp only [va_up]; (repeat' split) <;> first | rfl | omega) rfl ?_
      have E : L_X10_run_42 fu κ σ β ti (k + 1) κ1 r7 β1 = Z := Eq.trans (Eq.symm (by subst e_r7; exact (if_neg c6).trans rfl)) hZ
      exact ih (k + 1) κ1 r7 β1 (by subst e_r7; exact stp c6 hk) (by subst e_r7; exact MI_X10_tick hI1) (by subst e_r7; exact ms_up c6 hm) E
set_option maxRecDepth 100000 in
set_option maxHeartbeats 4000000 in
theorem c_X10_run {G : Geo} {l : Launch} (hG : GOK G) {h : Hp} {κ : Nat → Int32} {σ : Nat → Int32} {β : Nat → Int32} (ti : Int32) (hM : MT G) (hr_36 : h 36 = κ) (hr_37 : h 37 = σ) (hr_39 : h 39 = β) (hsm : 0 ≤ (κ 1).toInt ∧ (κ 1).toInt ≤ 5) (hI : MI σ) : CM G l yX10_run cX10_run 3 (some .int) 4 92 [.ref (gA G 36 0), .int ti] h (va_up (va_up (va_up h 36 ((S_X10_run κ σ β ti).2.1)) 37 ((S_X10_run κ σ β ti).2.2.1)) 39 ((S_X10_run κ σ β ti).2.2.2)) (some (.int ((S_X10_run κ σ β ti).1))) := by
  obtain ⟨Z, hZ⟩ : ∃ Z, S_X10_run κ σ β ti = Z := ⟨_, rfl⟩
  rw [hZ]
  refine q_enter hG mf_X10_run (Nat.le_of_ble_eq_true rfl) ?_
  intro p e s m below meth c X hret
  have hT_36 : gT G 36 = 9 := hM 36 (by decide) (by decide)
  have hT_37 : gT G 37 = 10 := hM 37 (by decide) (by decide)
  have hT_39 : gT G 39 = 11 := hM 39 (by decide) (by decide)
  refine q_lv (lv2 := [(0, .ref (gA G 36 0)), (1, .int ti)]) rfl ?_
  refine q_aload_n X 0 dX10_run_0 rfl ?_
  refine q_iconst (v := 0) X dX10_run_1 (by decide) ?_
  obtain ⟨r1, e_r1⟩ : ∃ z : Nat → Int32, z = va_up κ 0 0 := ⟨_, rfl⟩
  refine q_put (fk := 0) (h2 := va_up h 36 r1) X cf_X10 (ac_9_0 hT_36) (by decide) fl_X10_25 rfl rfl (by rw [hT_36]; rfl) rfl rfl rfl dX10_run_2 (hr_36) (by rw [e_r1]) ?_
  refine q_iload_n X 1 dX10_run_5 rfl ?_
  refine q_iconst (v := 1) X dX10_run_6 (by decide) ?_
  refine q_sipush (v := 200) X dX10_run_7 (by decide) ?_
  refine q_callS (h1 := _) (rest := []) (As := [.int ti, .int 1, .int 200]) X (c_X10_in (l := l) hG   ti 1 200 ) mf_X10_in ms_X10_in lk_X10_39 rfl ⟨by decide, by decide⟩ ⟨Nat.le_refl _, Nat.le_refl _⟩ rfl (Nat.le_of_ble_eq_true rfl) dX10_run_10 (st2 := [.int (S_X10_in ti 1 200)]) rfl ?_
  refine q_if_ne (tgt := 19) X dX10_run_13 (by decide) (fun c2 => ?_) (fun c2 => ?_)
  · skip
    refine q_aload_n X 0 dX10_run_19 rfl ?_
    refine q_get (fk := 1) (v := .ref (gA G 37 0)) X cf_X10 (ac_9_0 hT_36) (by decide) fl_X10_7 rfl rfl dX10_run_20 rfl ?_
    refine q_iconst (v := 0) X dX10_run_23 (by decide) ?_
    refine q_iald (x := σ 0) X (ac_10_0 hT_37) (by rw [hT_37]; exact vin_lit (by decide)) dX10_run_24 ((va_up_ne _ _ (by decide)).trans (hr_37)) rfl ?_
    refine q_iload_n X 1 dX10_run_25 rfl ?_
    refine q_iadd X dX10_run_26 ?_
    refine q_sipush (v := 10000) X dX10_run_27 (by decide) ?_
    refine q_icmp_le (tgt := 36) X dX10_run_30 (by decide) (fun c3 => ?_) (fun c3 => ?_)
    · skip
      refine q_aload_n X 0 dX10_run_36 rfl ?_
      obtain ⟨r4, e_r4⟩ : ∃ z : Nat → Int32, z = (S_X10_act r1 σ β).1 := ⟨_, rfl⟩
      obtain ⟨r5, e_r5⟩ : ∃ z : Nat → Int32, z = (S_X10_act r1 σ β).2 := ⟨_, rfl⟩
      refine q_callV (h1 := _) (rest := []) (As := []) X (c_X10_act (l := l) hG (κ := r1) (σ := σ) (β := β)   hM (va_up_self _ _ _) ((va_up_ne _ _ (by decide)).trans (hr_37)) ((va_up_ne _ _ (by decide)).trans (hr_39)) (by subst_vars; exact hsm)) mf_X10_act mv_X10_act cf_X10 rfl (ac_9_0 hT_36) lk_X10_36 rfl ⟨by decide, by decide⟩ ⟨Nat.le_refl _, Nat.le_refl _⟩ rfl (Nat.le_of_ble_eq_true rfl) dX10_run_37 (st2 := []) rfl ?_
      refine q_eq (h2 := va_up (va_up h 36 r4) 39 r5) (by rw [← e_r4, ← e_r5]; (funext x; simp only [va_up]; (repeat' split) <;> first | rfl | omega)) rfl ?_
      refine q_iconst (v := 0) X dX10_run_40 (by decide) ?_
      refine q_istore_n (lv' := [(2, .int 0), (0, .ref (gA G 36 0)), (1, .int ti)]) X dX10_run_41 (by decide) rfl ?_
      refine q_sub (lv2 := [(0, .ref (gA G 36 0)), (1, .int ti), (2, .int 0)]) [1, 2, 0] rfl ?_
      refine q_eq (h2 := va_up (va_up (va_up h 36 r4) 39 r5) 37 σ) (va_up_id2 ((va_up_ne _ _ (by decide)).trans ((va_up_ne _ _ (by decide)).trans (hr_37)))).symm rfl ?_
      refine q_eq (h2 := va_up (va_up (va_up h 36 r4) 37 σ) 39 r5) (by funext x; simp only [va_up]; (repeat' split) <;> first | rfl | omega) rfl ?_
      have E : L_X10_run_42 ((ti.toInt - (0 : Int32).toInt).toNat + 1) κ σ β ti 0 r4 σ r5 = Z := Eq.trans (Eq.symm (by subst e_r5; subst e_r4; subst e_r1; exact (if_neg c2).trans ((if_pos c3).trans rfl))) hZ
      exact w_X10_run_42 X hret hM hr_36 hr_37 hr_39 hsm hI Z ((ti.toInt - (0 : Int32).toInt).toNat + 1) 0 r4 σ r5 (by subst e_r5; subst e_r4; subst e_r1; decide) (by subst e_r5; subst e_r4; subst e_r1; exact hI) (by subst e_r5; subst e_r4; subst e_r1; exact Nat.lt_succ_self _) E
    · skip
      refine q_ldc X kc_X10_56 dX10_run_33 ?_
      have E : Z = ((-100003), r1, σ, β) := by subst e_r1; exact hZ.symm.trans ((if_neg c2).trans ((if_neg c3).trans rfl))
      exact q_iret X hret dX10_run_35 (by rw [E]) (by rw [E]; (funext x; simp only [va_up]; (repeat' split) <;> first | rfl | omega | (subst_vars; rfl) | (subst_vars; assumption)))
  · skip
    refine q_ldc X kc_X10_47 dX10_run_16 ?_
    have E : Z = ((-100001), r1, σ, β) := by subst e_r1; exact hZ.symm.trans ((if_pos c2).trans rfl)
    exact q_iret X hret dX10_run_18 (by rw [E]) (by rw [E]; (funext x; simp only [va_up]; (repeat' split) <;> first | rfl | omega | (subst_vars; rfl) | (subst_vars; assumption)))
def L_X10_undo_27 (fu : Nat) (κ : Nat → Int32) (σ : Nat → Int32) (β : Nat → Int32) (k : Int32) (κ1 : Nat → Int32) (σ1 : Nat → Int32) : Int32 × (Nat → Int32) × (Nat → Int32) := match fu with
  | 0 => (0, (fun _ => 0), (fun _ => 0))
  | fu + 1 => if 112 ≤ k then ((κ1 1, κ1, σ1)) else (let r5 : Nat → Int32 := va_up σ1 (Int32.toNatClampNeg k) (β (Int32.toNatClampNeg ((112 * (κ1 1)) + k))); L_X10_undo_27 fu κ σ β (k + 1) κ1 r5)
def S_X10_undo (κ : Nat → Int32) (σ : Nat → Int32) (β : Nat → Int32) : Int32 × (Nat → Int32) × (Nat → Int32) := let r1 : Nat → Int32 := va_up κ 0 0; if (r1 1) = 0 then (((-100002), r1, σ)) else (let r3 : Nat → Int32 := va_up r1 1 ((r1 1) - 1); L_X10_undo_27 113 κ σ β 0 r3 σ)
set_option maxRecDepth 100000 in
set_option maxHeartbeats 4000000 in
theorem w_X10_undo_27 {G : Geo} {p : Program} {l : Launch} {e : Env} {s : State} {m : MethodId} {args : Array Value} {below : List Frame} {meth : Method} {c : Code} {h : Hp} {κ : Nat → Int32} {σ : Nat → Int32} {β : Nat → Int32} (X : CX G (AA G) p s m meth c RX10 cX10_undo 2) (hret : meth.sig.returnType = (some .int)) (hM : MT G) (hr_36 : h 36 = κ) (hr_37 : h 37 = σ) (hr_39 : h 39 = β) (hsm : 0 ≤ (κ 1).toInt ∧ (κ 1).toInt ≤ 5) (Z : Int32 × (Nat → Int32) × (Nat → Int32)) : ∀ (fu : Nat) (k : Int32) (κ1 : Nat → Int32) (σ1 : Nat → Int32), (0 ≤ k.toInt) → (0 ≤ (κ1 1).toInt ∧ (κ1 1).toInt ≤ 4) → ((112 : Int32).toInt - k.toInt).toNat < fu → L_X10_undo_27 fu κ σ β k κ1 σ1 = Z → VV G (AA G) p l e { frames := 0, cells := 0, slots := 0, locals := 0 } s m args below meth c 0 0 (MQ below (QC G (va_up (va_up h 36 Z.2.1) 37 Z.2.2) (some (.int Z.1))) args s 0 0 (AA G)) 2 (va_up (va_up h 36 κ1) 37 σ1) 27 [(0, .ref (gA G 36 0)), (1, .int k)] [] := by
  intro fu
  induction fu with
  | zero =>
    intro k κ1 σ1 hk hs1 hm
    exact absurd hm (Nat.not_lt_zero _)
  | succ fu ih =>
    intro k κ1 σ1 hk hs1 hm hZ
    have hG := X.2.2.2.2.2.1
    have hT_36 : gT G 36 = 9 := hM 36 (by decide) (by decide)
    have hT_37 : gT G 37 = 10 := hM 37 (by decide) (by decide)
    have hT_39 : gT G 39 = 11 := hM 39 (by decide) (by decide)
    refine q_iload_n X 1 dX10_undo_27 rfl ?_
    refine q_bipush (v := 112) X dX10_undo_28 (by decide) ?_
    refine q_icmp_ge (tgt := 59) X dX10_undo_30 (by decide) (fun c4 => ?_) (fun c4 => ?_)
    · skip
      refine q_aload_n X 0 dX10_undo_59 rfl ?_
      refine q_geti (fk := 4) (x := κ1 1) X cf_X10 (ac_9_0 hT_36) (by decide) fl_X10_33 rfl rfl dX10_undo_60 ((va_up_ne _ _ (by decide)).trans (va_up_self _ _ _)) rfl ?_
      have E : Z = (κ1 1, κ1, σ1) := by exact hZ.symm.trans ((if_pos c4).trans rfl)
      exact q_iret X hret dX10_undo_63 (by rw [E]) (by rw [E])
    · skip
      refine q_aload_n X 0 dX10_undo_33 rfl ?_
      refine q_get (fk := 1) (v := .ref (gA G 37 0)) X cf_X10 (ac_9_0 hT_36) (by decide) fl_X10_7 rfl rfl dX10_undo_34 rfl ?_
      refine q_iload_n X 1 dX10_undo_37 rfl ?_
      refine q_aload_n X 0 dX10_undo_38 rfl ?_
      refine q_get (fk := 3) (v := .ref (gA G 39 0)) X cf_X10 (ac_9_0 hT_36) (by decide) fl_X10_16 rfl rfl dX10_undo_39 rfl ?_
      refine q_bipush (v := 112) X dX10_undo_42 (by decide) ?_
      refine q_aload_n X 0 dX10_undo_44 rfl ?_
      refine q_geti (fk := 4) (x := κ1 1) X cf_X10 (ac_9_0 hT_36) (by decide) fl_X10_33 rfl rfl dX10_undo_45 ((va_up_ne _ _ (by decide)).trans (va_up_self _ _ _)) rfl ?_
      refine q_imul X dX10_undo_48 ?_
      refine q_iload_n X 1 dX10_undo_49 rfl ?_
      refine q_iadd X dX10_undo_50 ?_
      refine q_iald (x := β (Int32.toNatClampNeg ((112 * (κ1 1)) + k))) X (ac_11_0 hT_39) (by rw [hT_39]; exact ix_sv hs1 hk c4) dX10_undo_51 ((va_up_ne _ _ (by decide)).trans ((va_up_ne _ _ (by decide)).trans (hr_39))) (by rw [Nat.zero_add, Nat.one_mul]) ?_
      obtain ⟨r5, e_r5⟩ : ∃ z : Nat → Int32, z = va_up σ1 (Int32.toNatClampNeg k) (β (Int32.toNatClampNeg ((112 * (κ1 1)) + k))) := ⟨_, rfl⟩
      refine q_iast (h2 := va_up (va_up h 36 κ1) 37 r5) X (ac_10_0 hT_37) (by rw [hT_37]; exact vin_i hk (nle c4)) dX10_undo_52 (va_up_self _ _ _) (by rw [Nat.zero_add, Nat.one_mul, e_r5, va_up_up]) ?_
      refine q_iinc (v := k + 1) (lv' := [(1, .int (k + 1)), (0, .ref (gA G 36 0))]) X 1 dX10_undo_53 rfl rfl (by decide) rfl ?_
      refine q_goto (tgt := 27) X dX10_undo_56 (by decide) ?_
      refine q_sub (lv2 := [(0, .ref (gA G 36 0)), (1, .int (k + 1))]) [1, 0] rfl ?_
      have E : L_X10_undo_27 fu κ σ β (k + 1) κ1 r5 = Z := Eq.trans (Eq.symm (by subst e_r5; exact (if_neg c4).trans rfl)) hZ
      exact ih (k + 1) κ1 r5 (by subst e_r5; exact stp c4 hk) (by subst e_r5; exact hs1) (by subst e_r5; exact ms_up c4 hm) E
set_option maxRecDepth 100000 in
set_option maxHeartbeats 4000000 in
theorem c_X10_undo {G : Geo} {l : Launch} (hG : GOK G) {h : Hp} {κ : Nat → Int32} {σ : Nat → Int32} {β : Nat → Int32} (hM : MT G) (hr_36 : h 36 = κ) (hr_37 : h 37 = σ) (hr_39 : h 39 = β) (hsm : 0 ≤ (κ 1).toInt ∧ (κ 1).toInt ≤ 5) : CM G l yX10_undo cX10_undo 2 (some .int) 0 0 [.ref (gA G 36 0)] h (va_up (va_up h 36 ((S_X10_undo κ σ β).2.1)) 37 ((S_X10_undo κ σ β).2.2)) (some (.int ((S_X10_undo κ σ β).1))) := by
  obtain ⟨Z, hZ⟩ : ∃ Z, S_X10_undo κ σ β = Z := ⟨_, rfl⟩
  rw [hZ]
  refine q_enter hG mf_X10_undo (Nat.le_of_ble_eq_true rfl) ?_
  intro p e s m below meth c X hret
  have hT_36 : gT G 36 = 9 := hM 36 (by decide) (by decide)
  have hT_37 : gT G 37 = 10 := hM 37 (by decide) (by decide)
  have hT_39 : gT G 39 = 11 := hM 39 (by decide) (by decide)
  refine q_lv (lv2 := [(0, .ref (gA G 36 0))]) rfl ?_
  refine q_aload_n X 0 dX10_undo_0 rfl ?_
  refine q_iconst (v := 0) X dX10_undo_1 (by decide) ?_
  obtain ⟨r1, e_r1⟩ : ∃ z : Nat → Int32, z = va_up κ 0 0 := ⟨_, rfl⟩
  refine q_put (fk := 0) (h2 := va_up h 36 r1) X cf_X10 (ac_9_0 hT_36) (by decide) fl_X10_25 rfl rfl (by rw [hT_36]; rfl) rfl rfl rfl dX10_undo_2 (hr_36) (by rw [e_r1]) ?_
  refine q_aload_n X 0 dX10_undo_5 rfl ?_
  refine q_geti (fk := 4) (x := r1 1) X cf_X10 (ac_9_0 hT_36) (by decide) fl_X10_33 rfl rfl dX10_undo_6 (va_up_self _ _ _) rfl ?_
  refine q_if_ne (tgt := 15) X dX10_undo_9 (by decide) (fun c2 => ?_) (fun c2 => ?_)
  · skip
    refine q_aload_n X 0 dX10_undo_15 rfl ?_
    refine q_dup X dX10_undo_16 rfl ?_
    refine q_geti (fk := 4) (x := r1 1) X cf_X10 (ac_9_0 hT_36) (by decide) fl_X10_33 rfl rfl dX10_undo_17 (va_up_self _ _ _) rfl ?_
    refine q_iconst (v := 1) X dX10_undo_20 (by decide) ?_
    refine q_isub X dX10_undo_21 ?_
    obtain ⟨r3, e_r3⟩ : ∃ z : Nat → Int32, z = va_up r1 1 ((r1 1) - 1) := ⟨_, rfl⟩
    refine q_put (fk := 4) (h2 := va_up h 36 r3) X cf_X10 (ac_9_0 hT_36) (by decide) fl_X10_33 rfl rfl (by rw [hT_36]; rfl) rfl rfl rfl dX10_undo_22 (va_up_self _ _ _) (by rw [e_r3, va_up_up]) ?_
    refine q_iconst (v := 0) X dX10_undo_25 (by decide) ?_
    refine q_istore_n (lv' := [(1, .int 0), (0, .ref (gA G 36 0))]) X dX10_undo_26 (by decide) rfl ?_
    refine q_sub (lv2 := [(0, .ref (gA G 36 0)), (1, .int 0)]) [1, 0] rfl ?_
    refine q_eq (h2 := va_up (va_up h 36 r3) 37 σ) (va_up_id2 ((va_up_ne _ _ (by decide)).trans (hr_37))).symm rfl ?_
    have E : L_X10_undo_27 113 κ σ β 0 r3 σ = Z := Eq.trans (Eq.symm (by subst e_r3; subst e_r1; exact (if_neg c2).trans rfl)) hZ
    exact w_X10_undo_27 X hret hM hr_36 hr_37 hr_39 hsm Z 113 0 r3 σ (by subst e_r3; subst e_r1; decide) (by subst e_r3; subst e_r1; exact sm_un hsm (by assumption)) (by subst e_r3; subst e_r1; decide) E
  · skip
    refine q_ldc X kc_X10_61 dX10_undo_12 ?_
    have E : Z = ((-100002), r1, σ) := by subst e_r1; exact hZ.symm.trans ((if_pos c2).trans rfl)
    exact q_iret X hret dX10_undo_14 (by rw [E]) (by rw [E]; (funext x; simp only [va_up]; (repeat' split) <;> first | rfl | omega | (subst_vars; rfl) | (subst_vars; assumption)))
def S_X10_count (κ : Nat → Int32) (σ : Nat → Int32) (wh : Int32) : Int32 × (Nat → Int32) := let r1 : Nat → Int32 := va_up κ 0 0; if wh = 0 then ((σ (Int32.toNatClampNeg wh), r1)) else (if wh = 1 then ((σ (Int32.toNatClampNeg wh), r1)) else (if wh = 2 then ((σ (Int32.toNatClampNeg wh), r1)) else (if wh = 3 then ((σ 4, r1)) else (if wh = 4 then ((σ 3, r1)) else (if wh = 5 then ((σ 7, r1)) else (if wh = 6 then ((σ 5, r1)) else (if wh = 7 then ((σ 13, r1)) else (if wh = 8 then ((σ 32, r1)) else (if wh = 9 then ((σ 49, r1)) else (if wh = 10 then ((σ 63, r1)) else (if wh = 11 then ((r1 1, r1)) else (if wh = 12 then ((r1 2, r1)) else (((-100001), r1))))))))))))))
set_option maxRecDepth 100000 in
set_option maxHeartbeats 4000000 in
theorem c_X10_count {G : Geo} {l : Launch} (hG : GOK G) {h : Hp} {κ : Nat → Int32} {σ : Nat → Int32} (wh : Int32) (hM : MT G) (hr_36 : h 36 = κ) (hr_37 : h 37 = σ) : CM G l yX10_count cX10_count 2 (some .int) 0 0 [.ref (gA G 36 0), .int wh] h (va_up h 36 ((S_X10_count κ σ wh).2)) (some (.int ((S_X10_count κ σ wh).1))) := by
  obtain ⟨Z, hZ⟩ : ∃ Z, S_X10_count κ σ wh = Z := ⟨_, rfl⟩
  rw [hZ]
  refine q_enter hG mf_X10_count (Nat.le_of_ble_eq_true rfl) ?_
  intro p e s m below meth c X hret
  have hT_36 : gT G 36 = 9 := hM 36 (by decide) (by decide)
  have hT_37 : gT G 37 = 10 := hM 37 (by decide) (by decide)
  refine q_lv (lv2 := [(0, .ref (gA G 36 0)), (1, .int wh)]) rfl ?_
  refine q_aload_n X 0 dX10_count_0 rfl ?_
  refine q_iconst (v := 0) X dX10_count_1 (by decide) ?_
  obtain ⟨r1, e_r1⟩ : ∃ z : Nat → Int32, z = va_up κ 0 0 := ⟨_, rfl⟩
  refine q_put (fk := 0) (h2 := va_up h 36 r1) X cf_X10 (ac_9_0 hT_36) (by decide) fl_X10_25 rfl rfl (by rw [hT_36]; rfl) rfl rfl rfl dX10_count_2 (hr_36) (by rw [e_r1]) ?_
  refine q_iload_n X 1 dX10_count_5 rfl ?_
  rcases Decidable.em (wh = 0) with c2 | c2
  · skip
    refine q_tabIn (off := 66) (tgt := 72) X dX10_count_6 (by rw [c2]; decide) (by rw [c2]; decide) (by rw [c2]; rfl) (by decide) ?_
    refine q_aload_n X 0 dX10_count_72 rfl ?_
    refine q_get (fk := 1) (v := .ref (gA G 37 0)) X cf_X10 (ac_9_0 hT_36) (by decide) fl_X10_7 rfl rfl dX10_count_73 rfl ?_
    refine q_iload_n X 1 dX10_count_76 rfl ?_
    refine q_iald (x := σ (Int32.toNatClampNeg wh)) X (ac_10_0 hT_37) (by rw [hT_37]; exact (vin_lit (by first | (rw [show wh = 0 by assumption]; decide) | (rw [show wh = 1 by assumption]; decide) | (rw [show wh = 2 by assumption]; decide)))) dX10_count_77 ((va_up_ne _ _ (by decide)).trans (hr_37)) (by rw [Nat.zero_add, Nat.one_mul]) ?_
    have E : Z = (σ (Int32.toNatClampNeg wh), r1) := by subst e_r1; exact hZ.symm.trans ((if_pos c2).trans rfl)
    exact q_iret X hret dX10_count_78 (by rw [E]) (by rw [E])
  rcases Decidable.em (wh = 1) with c3 | c3
  · skip
    refine q_tabIn (off := 66) (tgt := 72) X dX10_count_6 (by rw [c3]; decide) (by rw [c3]; decide) (by rw [c3]; rfl) (by decide) ?_
    refine q_aload_n X 0 dX10_count_72 rfl ?_
    refine q_get (fk := 1) (v := .ref (gA G 37 0)) X cf_X10 (ac_9_0 hT_36) (by decide) fl_X10_7 rfl rfl dX10_count_73 rfl ?_
    refine q_iload_n X 1 dX10_count_76 rfl ?_
    refine q_iald (x := σ (Int32.toNatClampNeg wh)) X (ac_10_0 hT_37) (by rw [hT_37]; exact (vin_lit (by first | (rw [show wh = 0 by assumption]; decide) | (rw [show wh = 1 by assumption]; decide) | (rw [show wh = 2 by assumption]; decide)))) dX10_count_77 ((va_up_ne _ _ (by decide)).trans (hr_37)) (by rw [Nat.zero_add, Nat.one_mul]) ?_
    have E : Z = (σ (Int32.toNatClampNeg wh), r1) := by subst e_r1; exact hZ.symm.trans ((if_neg c2).trans ((if_pos c3).trans rfl))
    exact q_iret X hret dX10_count_78 (by rw [E]) (by rw [E])
  rcases Decidable.em (wh = 2) with c4 | c4
  · skip
    refine q_tabIn (off := 66) (tgt := 72) X dX10_count_6 (by rw [c4]; decide) (by rw [c4]; decide) (by rw [c4]; rfl) (by decide) ?_
    refine q_aload_n X 0 dX10_count_72 rfl ?_
    refine q_get (fk := 1) (v := .ref (gA G 37 0)) X cf_X10 (ac_9_0 hT_36) (by decide) fl_X10_7 rfl rfl dX10_count_73 rfl ?_
    refine q_iload_n X 1 dX10_count_76 rfl ?_
    refine q_iald (x := σ (Int32.toNatClampNeg wh)) X (ac_10_0 hT_37) (by rw [hT_37]; exact (vin_lit (by first | (rw [show wh = 0 by assumption]; decide) | (rw [show wh = 1 by assumption]; decide) | (rw [show wh = 2 by assumption]; decide)))) dX10_count_77 ((va_up_ne _ _ (by decide)).trans (hr_37)) (by rw [Nat.zero_add, Nat.one_mul]) ?_
    have E : Z = (σ (Int32.toNatClampNeg wh), r1) := by subst e_r1; exact hZ.symm.trans ((if_neg c2).trans ((if_neg c3).trans ((if_pos c4).trans rfl)))
    exact q_iret X hret dX10_count_78 (by rw [E]) (by rw [E])
  rcases Decidable.em (wh = 3) with c5 | c5
  · skip
    refine q_tabIn (off := 73) (tgt := 79) X dX10_count_6 (by rw [c5]; decide) (by rw [c5]; decide) (by rw [c5]; rfl) (by decide) ?_
    refine q_aload_n X 0 dX10_count_79 rfl ?_
    refine q_get (fk := 1) (v := .ref (gA G 37 0)) X cf_X10 (ac_9_0 hT_36) (by decide) fl_X10_7 rfl rfl dX10_count_80 rfl ?_
    refine q_iconst (v := 4) X dX10_count_83 (by decide) ?_
    refine q_iald (x := σ 4) X (ac_10_0 hT_37) (by rw [hT_37]; exact vin_lit (by decide)) dX10_count_84 ((va_up_ne _ _ (by decide)).trans (hr_37)) rfl ?_
    have E : Z = (σ 4, r1) := by subst e_r1; exact hZ.symm.trans ((if_neg c2).trans ((if_neg c3).trans ((if_neg c4).trans ((if_pos c5).trans rfl))))
    exact q_iret X hret dX10_count_85 (by rw [E]) (by rw [E])
  rcases Decidable.em (wh = 4) with c6 | c6
  · skip
    refine q_tabIn (off := 80) (tgt := 86) X dX10_count_6 (by rw [c6]; decide) (by rw [c6]; decide) (by rw [c6]; rfl) (by decide) ?_
    refine q_aload_n X 0 dX10_count_86 rfl ?_
    refine q_get (fk := 1) (v := .ref (gA G 37 0)) X cf_X10 (ac_9_0 hT_36) (by decide) fl_X10_7 rfl rfl dX10_count_87 rfl ?_
    refine q_iconst (v := 3) X dX10_count_90 (by decide) ?_
    refine q_iald (x := σ 3) X (ac_10_0 hT_37) (by rw [hT_37]; exact vin_lit (by decide)) dX10_count_91 ((va_up_ne _ _ (by decide)).trans (hr_37)) rfl ?_
    have E : Z = (σ 3, r1) := by subst e_r1; exact hZ.symm.trans ((if_neg c2).trans ((if_neg c3).trans ((if_neg c4).trans ((if_neg c5).trans ((if_pos c6).trans rfl)))))
    exact q_iret X hret dX10_count_92 (by rw [E]) (by rw [E])
  rcases Decidable.em (wh = 5) with c7 | c7
  · skip
    refine q_tabIn (off := 87) (tgt := 93) X dX10_count_6 (by rw [c7]; decide) (by rw [c7]; decide) (by rw [c7]; rfl) (by decide) ?_
    refine q_aload_n X 0 dX10_count_93 rfl ?_
    refine q_get (fk := 1) (v := .ref (gA G 37 0)) X cf_X10 (ac_9_0 hT_36) (by decide) fl_X10_7 rfl rfl dX10_count_94 rfl ?_
    refine q_bipush (v := 7) X dX10_count_97 (by decide) ?_
    refine q_iald (x := σ 7) X (ac_10_0 hT_37) (by rw [hT_37]; exact vin_lit (by decide)) dX10_count_99 ((va_up_ne _ _ (by decide)).trans (hr_37)) rfl ?_
    have E : Z = (σ 7, r1) := by subst e_r1; exact hZ.symm.trans ((if_neg c2).trans ((if_neg c3).trans ((if_neg c4).trans ((if_neg c5).trans ((if_neg c6).trans ((if_pos c7).trans rfl))))))
    exact q_iret X hret dX10_count_100 (by rw [E]) (by rw [E])
  rcases Decidable.em (wh = 6) with c8 | c8
  · skip
    refine q_tabIn (off := 95) (tgt := 101) X dX10_count_6 (by rw [c8]; decide) (by rw [c8]; decide) (by rw [c8]; rfl) (by decide) ?_
    refine q_aload_n X 0 dX10_count_101 rfl ?_
    refine q_get (fk := 1) (v := .ref (gA G 37 0)) X cf_X10 (ac_9_0 hT_36) (by decide) fl_X10_7 rfl rfl dX10_count_102 rfl ?_
    refine q_iconst (v := 5) X dX10_count_105 (by decide) ?_
    refine q_iald (x := σ 5) X (ac_10_0 hT_37) (by rw [hT_37]; exact vin_lit (by decide)) dX10_count_106 ((va_up_ne _ _ (by decide)).trans (hr_37)) rfl ?_
    have E : Z = (σ 5, r1) := by subst e_r1; exact hZ.symm.trans ((if_neg c2).trans ((if_neg c3).trans ((if_neg c4).trans ((if_neg c5).trans ((if_neg c6).trans ((if_neg c7).trans ((if_pos c8).trans rfl)))))))
    exact q_iret X hret dX10_count_107 (by rw [E]) (by rw [E])
  rcases Decidable.em (wh = 7) with c9 | c9
  · skip
    refine q_tabIn (off := 102) (tgt := 108) X dX10_count_6 (by rw [c9]; decide) (by rw [c9]; decide) (by rw [c9]; rfl) (by decide) ?_
    refine q_aload_n X 0 dX10_count_108 rfl ?_
    refine q_get (fk := 1) (v := .ref (gA G 37 0)) X cf_X10 (ac_9_0 hT_36) (by decide) fl_X10_7 rfl rfl dX10_count_109 rfl ?_
    refine q_bipush (v := 13) X dX10_count_112 (by decide) ?_
    refine q_iald (x := σ 13) X (ac_10_0 hT_37) (by rw [hT_37]; exact vin_lit (by decide)) dX10_count_114 ((va_up_ne _ _ (by decide)).trans (hr_37)) rfl ?_
    have E : Z = (σ 13, r1) := by subst e_r1; exact hZ.symm.trans ((if_neg c2).trans ((if_neg c3).trans ((if_neg c4).trans ((if_neg c5).trans ((if_neg c6).trans ((if_neg c7).trans ((if_neg c8).trans ((if_pos c9).trans rfl))))))))
    exact q_iret X hret dX10_count_115 (by rw [E]) (by rw [E])
  rcases Decidable.em (wh = 8) with c10 | c10
  · skip
    refine q_tabIn (off := 110) (tgt := 116) X dX10_count_6 (by rw [c10]; decide) (by rw [c10]; decide) (by rw [c10]; rfl) (by decide) ?_
    refine q_aload_n X 0 dX10_count_116 rfl ?_
    refine q_get (fk := 1) (v := .ref (gA G 37 0)) X cf_X10 (ac_9_0 hT_36) (by decide) fl_X10_7 rfl rfl dX10_count_117 rfl ?_
    refine q_bipush (v := 32) X dX10_count_120 (by decide) ?_
    refine q_iald (x := σ 32) X (ac_10_0 hT_37) (by rw [hT_37]; exact vin_lit (by decide)) dX10_count_122 ((va_up_ne _ _ (by decide)).trans (hr_37)) rfl ?_
    have E : Z = (σ 32, r1) := by subst e_r1; exact hZ.symm.trans ((if_neg c2).trans ((if_neg c3).trans ((if_neg c4).trans ((if_neg c5).trans ((if_neg c6).trans ((if_neg c7).trans ((if_neg c8).trans ((if_neg c9).trans ((if_pos c10).trans rfl)))))))))
    exact q_iret X hret dX10_count_123 (by rw [E]) (by rw [E])
  rcases Decidable.em (wh = 9) with c11 | c11
  · skip
    refine q_tabIn (off := 118) (tgt := 124) X dX10_count_6 (by rw [c11]; decide) (by rw [c11]; decide) (by rw [c11]; rfl) (by decide) ?_
    refine q_aload_n X 0 dX10_count_124 rfl ?_
    refine q_get (fk := 1) (v := .ref (gA G 37 0)) X cf_X10 (ac_9_0 hT_36) (by decide) fl_X10_7 rfl rfl dX10_count_125 rfl ?_
    refine q_bipush (v := 49) X dX10_count_128 (by decide) ?_
    refine q_iald (x := σ 49) X (ac_10_0 hT_37) (by rw [hT_37]; exact vin_lit (by decide)) dX10_count_130 ((va_up_ne _ _ (by decide)).trans (hr_37)) rfl ?_
    have E : Z = (σ 49, r1) := by subst e_r1; exact hZ.symm.trans ((if_neg c2).trans ((if_neg c3).trans ((if_neg c4).trans ((if_neg c5).trans ((if_neg c6).trans ((if_neg c7).trans ((if_neg c8).trans ((if_neg c9).trans ((if_neg c10).trans ((if_pos c11).trans rfl))))))))))
    exact q_iret X hret dX10_count_131 (by rw [E]) (by rw [E])
  rcases Decidable.em (wh = 10) with c12 | c12
  · skip
    refine q_tabIn (off := 126) (tgt := 132) X dX10_count_6 (by rw [c12]; decide) (by rw [c12]; decide) (by rw [c12]; rfl) (by decide) ?_
    refine q_aload_n X 0 dX10_count_132 rfl ?_
    refine q_get (fk := 1) (v := .ref (gA G 37 0)) X cf_X10 (ac_9_0 hT_36) (by decide) fl_X10_7 rfl rfl dX10_count_133 rfl ?_
    refine q_bipush (v := 63) X dX10_count_136 (by decide) ?_
    refine q_iald (x := σ 63) X (ac_10_0 hT_37) (by rw [hT_37]; exact vin_lit (by decide)) dX10_count_138 ((va_up_ne _ _ (by decide)).trans (hr_37)) rfl ?_
    have E : Z = (σ 63, r1) := by subst e_r1; exact hZ.symm.trans ((if_neg c2).trans ((if_neg c3).trans ((if_neg c4).trans ((if_neg c5).trans ((if_neg c6).trans ((if_neg c7).trans ((if_neg c8).trans ((if_neg c9).trans ((if_neg c10).trans ((if_neg c11).trans ((if_pos c12).trans rfl)))))))))))
    exact q_iret X hret dX10_count_139 (by rw [E]) (by rw [E])
  rcases Decidable.em (wh = 11) with c13 | c13
  · skip
    refine q_tabIn (off := 134) (tgt := 140) X dX10_count_6 (by rw [c13]; decide) (by rw [c13]; decide) (by rw [c13]; rfl) (by decide) ?_
    refine q_aload_n X 0 dX10_count_140 rfl ?_
    refine q_geti (fk := 4) (x := r1 1) X cf_X10 (ac_9_0 hT_36) (by decide) fl_X10_33 rfl rfl dX10_count_141 (va_up_self _ _ _) rfl ?_
    have E : Z = (r1 1, r1) := by subst e_r1; exact hZ.symm.trans ((if_neg c2).trans ((if_neg c3).trans ((if_neg c4).trans ((if_neg c5).trans ((if_neg c6).trans ((if_neg c7).trans ((if_neg c8).trans ((if_neg c9).trans ((if_neg c10).trans ((if_neg c11).trans ((if_neg c12).trans ((if_pos c13).trans rfl))))))))))))
    exact q_iret X hret dX10_count_144 (by rw [E]) (by rw [E])
  rcases Decidable.em (wh = 12) with c14 | c14
  · skip
    refine q_tabIn (off := 139) (tgt := 145) X dX10_count_6 (by rw [c14]; decide) (by rw [c14]; decide) (by rw [c14]; rfl) (by decide) ?_
    refine q_aload_n X 0 dX10_count_145 rfl ?_
    refine q_geti (fk := 6) (x := r1 2) X cf_X10 (ac_9_0 hT_36) (by decide) fl_X10_65 rfl rfl dX10_count_146 (va_up_self _ _ _) rfl ?_
    have E : Z = (r1 2, r1) := by subst e_r1; exact hZ.symm.trans ((if_neg c2).trans ((if_neg c3).trans ((if_neg c4).trans ((if_neg c5).trans ((if_neg c6).trans ((if_neg c7).trans ((if_neg c8).trans ((if_neg c9).trans ((if_neg c10).trans ((if_neg c11).trans ((if_neg c12).trans ((if_neg c13).trans ((if_pos c14).trans rfl)))))))))))))
    exact q_iret X hret dX10_count_149 (by rw [E]) (by rw [E])
  refine q_tabOut (tgt := 150) X dX10_count_6 (by have zc2 := lv_neT c2 (a := 0) (by decide); have zc3 := lv_neT c3 (a := 1) (by decide); have zc4 := lv_neT c4 (a := 2) (by decide); have zc5 := lv_neT c5 (a := 3) (by decide); have zc6 := lv_neT c6 (a := 4) (by decide); have zc7 := lv_neT c7 (a := 5) (by decide); have zc8 := lv_neT c8 (a := 6) (by decide); have zc9 := lv_neT c9 (a := 7) (by decide); have zc10 := lv_neT c10 (a := 8) (by decide); have zc11 := lv_neT c11 (a := 9) (by decide); have zc12 := lv_neT c12 (a := 10) (by decide); have zc13 := lv_neT c13 (a := 11) (by decide); have zc14 := lv_neT c14 (a := 12) (by decide); omega) (by decide) ?_
  refine q_ldc X kc_X10_47 dX10_count_150 ?_
  have E : Z = ((-100001), r1) := by subst e_r1; exact hZ.symm.trans ((if_neg c2).trans ((if_neg c3).trans ((if_neg c4).trans ((if_neg c5).trans ((if_neg c6).trans ((if_neg c7).trans ((if_neg c8).trans ((if_neg c9).trans ((if_neg c10).trans ((if_neg c11).trans ((if_neg c12).trans ((if_neg c13).trans ((if_neg c14).trans rfl)))))))))))))
  exact q_iret X hret dX10_count_152 (by rw [E]) (by rw [E])
def S_X10_batch (κ : Nat → Int32) (σ : Nat → Int32) (wh : Int32) : Int32 × (Nat → Int32) := let r1 : Nat → Int32 := va_up κ 0 0; if (S_X10_in wh 0 9) = 0 then (((-100001), r1)) else (let m4 : Int32 := if (σ 1) = 0 then ((-100002)) else (σ (Int32.toNatClampNeg (16 + wh))); (m4, r1))
set_option maxRecDepth 100000 in
set_option maxHeartbeats 4000000 in
theorem c_X10_batch {G : Geo} {l : Launch} (hG : GOK G) {h : Hp} {κ : Nat → Int32} {σ : Nat → Int32} (wh : Int32) (hM : MT G) (hr_36 : h 36 = κ) (hr_37 : h 37 = σ) : CM G l yX10_batch cX10_batch 2 (some .int) 1 22 [.ref (gA G 36 0), .int wh] h (va_up h 36 ((S_X10_batch κ σ wh).2)) (some (.int ((S_X10_batch κ σ wh).1))) := by
  obtain ⟨Z, hZ⟩ : ∃ Z, S_X10_batch κ σ wh = Z := ⟨_, rfl⟩
  rw [hZ]
  refine q_enter hG mf_X10_batch (Nat.le_of_ble_eq_true rfl) ?_
  intro p e s m below meth c X hret
  have hT_36 : gT G 36 = 9 := hM 36 (by decide) (by decide)
  have hT_37 : gT G 37 = 10 := hM 37 (by decide) (by decide)
  refine q_lv (lv2 := [(0, .ref (gA G 36 0)), (1, .int wh)]) rfl ?_
  refine q_aload_n X 0 dX10_batch_0 rfl ?_
  refine q_iconst (v := 0) X dX10_batch_1 (by decide) ?_
  obtain ⟨r1, e_r1⟩ : ∃ z : Nat → Int32, z = va_up κ 0 0 := ⟨_, rfl⟩
  refine q_put (fk := 0) (h2 := va_up h 36 r1) X cf_X10 (ac_9_0 hT_36) (by decide) fl_X10_25 rfl rfl (by rw [hT_36]; rfl) rfl rfl rfl dX10_batch_2 (hr_36) (by rw [e_r1]) ?_
  refine q_iload_n X 1 dX10_batch_5 rfl ?_
  refine q_iconst (v := 0) X dX10_batch_6 (by decide) ?_
  refine q_bipush (v := 9) X dX10_batch_7 (by decide) ?_
  refine q_callS (h1 := _) (rest := []) (As := [.int wh, .int 0, .int 9]) X (c_X10_in (l := l) hG   wh 0 9 ) mf_X10_in ms_X10_in lk_X10_39 rfl ⟨by decide, by decide⟩ ⟨Nat.le_refl _, Nat.le_refl _⟩ rfl (Nat.le_of_ble_eq_true rfl) dX10_batch_9 (st2 := [.int (S_X10_in wh 0 9)]) rfl ?_
  refine q_if_ne (tgt := 18) X dX10_batch_12 (by decide) (fun c2 => ?_) (fun c2 => ?_)
  · skip
    refine q_aload_n X 0 dX10_batch_18 rfl ?_
    refine q_get (fk := 1) (v := .ref (gA G 37 0)) X cf_X10 (ac_9_0 hT_36) (by decide) fl_X10_7 rfl rfl dX10_batch_19 rfl ?_
    refine q_iconst (v := 1) X dX10_batch_22 (by decide) ?_
    refine q_iald (x := σ 1) X (ac_10_0 hT_37) (by rw [hT_37]; exact vin_lit (by decide)) dX10_batch_23 ((va_up_ne _ _ (by decide)).trans (hr_37)) rfl ?_
    suffices hJ5 : ∀ (m4 : Int32), m4 = (if (σ 1) = 0 then ((-100002)) else (σ (Int32.toNatClampNeg (16 + wh)))) → VV G (AA G) p l e { frames := 1, cells := 0, slots := 0, locals := 22 } s m ([.ref (gA G 36 0), .int wh] : List Value).toArray below meth c 0 0 (MQ below (QC G (va_up h 36 Z.2) (some (.int Z.1))) ([.ref (gA G 36 0), .int wh] : List Value).toArray s 0 0 (AA G)) 2 (va_up h 36 r1) 41 [(0, .ref (gA G 36 0)), (1, .int wh)] [.int m4] by
      refine q_if_ne (tgt := 32) X dX10_batch_24 (by decide) (fun c3 => ?_) (fun c3 => ?_)
      · skip
        refine q_aload_n X 0 dX10_batch_32 rfl ?_
        refine q_get (fk := 1) (v := .ref (gA G 37 0)) X cf_X10 (ac_9_0 hT_36) (by decide) fl_X10_7 rfl rfl dX10_batch_33 rfl ?_
        refine q_bipush (v := 16) X dX10_batch_36 (by decide) ?_
        refine q_iload_n X 1 dX10_batch_38 rfl ?_
        refine q_iadd X dX10_batch_39 ?_
        refine q_iald (x := σ (Int32.toNatClampNeg (16 + wh))) X (ac_10_0 hT_37) (by rw [hT_37]; exact ix_bat c2) dX10_batch_40 ((va_up_ne _ _ (by decide)).trans (hr_37)) (by rw [Nat.zero_add, Nat.one_mul]) ?_
        refine q_sub (lv2 := [(0, .ref (gA G 36 0)), (1, .int wh)]) [0, 1] rfl ?_
        exact hJ5 (σ (Int32.toNatClampNeg (16 + wh))) (by exact ((if_neg c3).trans rfl).symm)
      · skip
        refine q_ldc X kc_X10_61 dX10_batch_27 ?_
        refine q_goto (tgt := 41) X dX10_batch_29 (by decide) ?_
        refine q_sub (lv2 := [(0, .ref (gA G 36 0)), (1, .int wh)]) [0, 1] rfl ?_
        exact hJ5 (-100002) (by exact ((if_pos c3).trans rfl).symm)
    intro m4 e_m4
    have E : Z = (m4, r1) := by subst e_m4; subst e_r1; exact hZ.symm.trans ((if_neg c2).trans rfl)
    exact q_iret X hret dX10_batch_41 (by rw [E]) (by rw [E])
  · skip
    refine q_ldc X kc_X10_47 dX10_batch_15 ?_
    have E : Z = ((-100001), r1) := by subst e_r1; exact hZ.symm.trans ((if_pos c2).trans rfl)
    exact q_iret X hret dX10_batch_17 (by rw [E]) (by rw [E])
def S_X10_target (κ : Nat → Int32) (σ : Nat → Int32) (ti : Int32) : Int32 × (Nat → Int32) := let r1 : Nat → Int32 := va_up κ 0 0; let m3 : Int32 := if (S_X10_in ti 0 1000) = 0 then ((-100001)) else (S_X10_targetAt σ ti); (m3, r1)
set_option maxRecDepth 100000 in
set_option maxHeartbeats 4000000 in
theorem c_X10_target {G : Geo} {l : Launch} (hG : GOK G) {h : Hp} {κ : Nat → Int32} {σ : Nat → Int32} (ti : Int32) (hM : MT G) (hr_36 : h 36 = κ) (hr_37 : h 37 = σ) (hI : MI σ) : CM G l yX10_target cX10_target 2 (some .int) 2 48 [.ref (gA G 36 0), .int ti] h (va_up h 36 ((S_X10_target κ σ ti).2)) (some (.int ((S_X10_target κ σ ti).1))) := by
  obtain ⟨Z, hZ⟩ : ∃ Z, S_X10_target κ σ ti = Z := ⟨_, rfl⟩
  rw [hZ]
  refine q_enter hG mf_X10_target (Nat.le_of_ble_eq_true rfl) ?_
  intro p e s m below meth c X hret
  have hT_36 : gT G 36 = 9 := hM 36 (by decide) (by decide)
  have hT_37 : gT G 37 = 10 := hM 37 (by decide) (by decide)
  refine q_lv (lv2 := [(0, .ref (gA G 36 0)), (1, .int ti)]) rfl ?_
  refine q_aload_n X 0 dX10_target_0 rfl ?_
  refine q_iconst (v := 0) X dX10_target_1 (by decide) ?_
  obtain ⟨r1, e_r1⟩ : ∃ z : Nat → Int32, z = va_up κ 0 0 := ⟨_, rfl⟩
  refine q_put (fk := 0) (h2 := va_up h 36 r1) X cf_X10 (ac_9_0 hT_36) (by decide) fl_X10_25 rfl rfl (by rw [hT_36]; rfl) rfl rfl rfl dX10_target_2 (hr_36) (by rw [e_r1]) ?_
  refine q_iload_n X 1 dX10_target_5 rfl ?_
  refine q_iconst (v := 0) X dX10_target_6 (by decide) ?_
  refine q_sipush (v := 1000) X dX10_target_7 (by decide) ?_
  refine q_callS (h1 := _) (rest := []) (As := [.int ti, .int 0, .int 1000]) X (c_X10_in (l := l) hG   ti 0 1000 ) mf_X10_in ms_X10_in lk_X10_39 rfl ⟨by decide, by decide⟩ ⟨Nat.le_refl _, Nat.le_refl _⟩ rfl (Nat.le_of_ble_eq_true rfl) dX10_target_10 (st2 := [.int (S_X10_in ti 0 1000)]) rfl ?_
  suffices hJ4 : ∀ (m3 : Int32), m3 = (if (S_X10_in ti 0 1000) = 0 then ((-100001)) else (S_X10_targetAt σ ti)) → VV G (AA G) p l e { frames := 2, cells := 0, slots := 0, locals := 48 } s m ([.ref (gA G 36 0), .int ti] : List Value).toArray below meth c 0 0 (MQ below (QC G (va_up h 36 Z.2) (some (.int Z.1))) ([.ref (gA G 36 0), .int ti] : List Value).toArray s 0 0 (AA G)) 2 (va_up h 36 r1) 26 [(0, .ref (gA G 36 0)), (1, .int ti)] [.int m3] by
    refine q_if_eq (tgt := 24) X dX10_target_13 (by decide) (fun c2 => ?_) (fun c2 => ?_)
    · skip
      refine q_ldc X kc_X10_47 dX10_target_24 ?_
      refine q_sub (lv2 := [(0, .ref (gA G 36 0)), (1, .int ti)]) [0, 1] rfl ?_
      exact hJ4 (-100001) (by exact ((if_pos c2).trans rfl).symm)
    · skip
      refine q_aload_n X 0 dX10_target_16 rfl ?_
      refine q_iload_n X 1 dX10_target_17 rfl ?_
      refine q_callV (h1 := _) (rest := []) (As := [.int ti]) X (c_X10_targetAt (l := l) hG (σ := σ)  ti hM ((va_up_ne _ _ (by decide)).trans (hr_37)) hI) mf_X10_targetAt mv_X10_targetAt cf_X10 rfl (ac_9_0 hT_36) lk_X10_106 rfl ⟨by decide, by decide⟩ ⟨Nat.le_refl _, Nat.le_refl _⟩ rfl (Nat.le_of_ble_eq_true rfl) dX10_target_18 (st2 := [.int (S_X10_targetAt σ ti)]) rfl ?_
      refine q_goto (tgt := 26) X dX10_target_21 (by decide) ?_
      refine q_sub (lv2 := [(0, .ref (gA G 36 0)), (1, .int ti)]) [0, 1] rfl ?_
      exact hJ4 (S_X10_targetAt σ ti) (by exact ((if_neg c2).trans rfl).symm)
  intro m3 e_m3
  have E : Z = (m3, r1) := by subst e_m3; subst e_r1; exact hZ.symm.trans (rfl)
  exact q_iret X hret dX10_target_26 (by rw [E]) (by rw [E])
def S_X10_rate (κ : Nat → Int32) (σ : Nat → Int32) (te : Int32) : Int32 × (Nat → Int32) := let r1 : Nat → Int32 := va_up κ 0 0; let m3 : Int32 := if (S_X10_in te 0 3000) = 0 then ((-100001)) else (S_X10_rateAt σ te); (m3, r1)
set_option maxRecDepth 100000 in
set_option maxHeartbeats 4000000 in
theorem c_X10_rate {G : Geo} {l : Launch} (hG : GOK G) {h : Hp} {κ : Nat → Int32} {σ : Nat → Int32} (te : Int32) (hM : MT G) (hr_36 : h 36 = κ) (hr_37 : h 37 = σ) (hI : MI σ) : CM G l yX10_rate cX10_rate 2 (some .int) 2 46 [.ref (gA G 36 0), .int te] h (va_up h 36 ((S_X10_rate κ σ te).2)) (some (.int ((S_X10_rate κ σ te).1))) := by
  obtain ⟨Z, hZ⟩ : ∃ Z, S_X10_rate κ σ te = Z := ⟨_, rfl⟩
  rw [hZ]
  refine q_enter hG mf_X10_rate (Nat.le_of_ble_eq_true rfl) ?_
  intro p e s m below meth c X hret
  have hT_36 : gT G 36 = 9 := hM 36 (by decide) (by decide)
  have hT_37 : gT G 37 = 10 := hM 37 (by decide) (by decide)
  refine q_lv (lv2 := [(0, .ref (gA G 36 0)), (1, .int te)]) rfl ?_
  refine q_aload_n X 0 dX10_rate_0 rfl ?_
  refine q_iconst (v := 0) X dX10_rate_1 (by decide) ?_
  obtain ⟨r1, e_r1⟩ : ∃ z : Nat → Int32, z = va_up κ 0 0 := ⟨_, rfl⟩
  refine q_put (fk := 0) (h2 := va_up h 36 r1) X cf_X10 (ac_9_0 hT_36) (by decide) fl_X10_25 rfl rfl (by rw [hT_36]; rfl) rfl rfl rfl dX10_rate_2 (hr_36) (by rw [e_r1]) ?_
  refine q_iload_n X 1 dX10_rate_5 rfl ?_
  refine q_iconst (v := 0) X dX10_rate_6 (by decide) ?_
  refine q_sipush (v := 3000) X dX10_rate_7 (by decide) ?_
  refine q_callS (h1 := _) (rest := []) (As := [.int te, .int 0, .int 3000]) X (c_X10_in (l := l) hG   te 0 3000 ) mf_X10_in ms_X10_in lk_X10_39 rfl ⟨by decide, by decide⟩ ⟨Nat.le_refl _, Nat.le_refl _⟩ rfl (Nat.le_of_ble_eq_true rfl) dX10_rate_10 (st2 := [.int (S_X10_in te 0 3000)]) rfl ?_
  suffices hJ4 : ∀ (m3 : Int32), m3 = (if (S_X10_in te 0 3000) = 0 then ((-100001)) else (S_X10_rateAt σ te)) → VV G (AA G) p l e { frames := 2, cells := 0, slots := 0, locals := 46 } s m ([.ref (gA G 36 0), .int te] : List Value).toArray below meth c 0 0 (MQ below (QC G (va_up h 36 Z.2) (some (.int Z.1))) ([.ref (gA G 36 0), .int te] : List Value).toArray s 0 0 (AA G)) 2 (va_up h 36 r1) 26 [(0, .ref (gA G 36 0)), (1, .int te)] [.int m3] by
    refine q_if_eq (tgt := 24) X dX10_rate_13 (by decide) (fun c2 => ?_) (fun c2 => ?_)
    · skip
      refine q_ldc X kc_X10_47 dX10_rate_24 ?_
      refine q_sub (lv2 := [(0, .ref (gA G 36 0)), (1, .int te)]) [0, 1] rfl ?_
      exact hJ4 (-100001) (by exact ((if_pos c2).trans rfl).symm)
    · skip
      refine q_aload_n X 0 dX10_rate_16 rfl ?_
      refine q_iload_n X 1 dX10_rate_17 rfl ?_
      refine q_callV (h1 := _) (rest := []) (As := [.int te]) X (c_X10_rateAt (l := l) hG (σ := σ)  te hM ((va_up_ne _ _ (by decide)).trans (hr_37)) hI) mf_X10_rateAt mv_X10_rateAt cf_X10 rfl (ac_9_0 hT_36) lk_X10_116 rfl ⟨by decide, by decide⟩ ⟨Nat.le_refl _, Nat.le_refl _⟩ rfl (Nat.le_of_ble_eq_true rfl) dX10_rate_18 (st2 := [.int (S_X10_rateAt σ te)]) rfl ?_
      refine q_goto (tgt := 26) X dX10_rate_21 (by decide) ?_
      refine q_sub (lv2 := [(0, .ref (gA G 36 0)), (1, .int te)]) [0, 1] rfl ?_
      exact hJ4 (S_X10_rateAt σ te) (by exact ((if_neg c2).trans rfl).symm)
  intro m3 e_m3
  have E : Z = (m3, r1) := by subst e_m3; subst e_r1; exact hZ.symm.trans (rfl)
  exact q_iret X hret dX10_rate_26 (by rw [E]) (by rw [E])
def S_X10_logged (κ : Nat → Int32) (σ : Nat → Int32) (ix : Int32) (wh : Int32) : Int32 × (Nat → Int32) := let r1 : Nat → Int32 := va_up κ 0 0; if ix < 0 then (((-100001), r1)) else (if (S_X10_in wh 0 5) = 0 then (((-100001), r1)) else (let m5 : Int32 := if (σ 63) ≤ ix then ((-100009)) else (σ (Int32.toNatClampNeg ((64 + (6 * ix)) + wh))); (m5, r1)))
set_option maxRecDepth 100000 in
set_option maxHeartbeats 4000000 in
theorem c_X10_logged {G : Geo} {l : Launch} (hG : GOK G) {h : Hp} {κ : Nat → Int32} {σ : Nat → Int32} (ix : Int32) (wh : Int32) (hM : MT G) (hr_36 : h 36 = κ) (hr_37 : h 37 = σ) (hl : (σ 63).toInt ≤ 8) : CM G l yX10_logged cX10_logged 3 (some .int) 1 22 [.ref (gA G 36 0), .int ix, .int wh] h (va_up h 36 ((S_X10_logged κ σ ix wh).2)) (some (.int ((S_X10_logged κ σ ix wh).1))) := by
  obtain ⟨Z, hZ⟩ : ∃ Z, S_X10_logged κ σ ix wh = Z := ⟨_, rfl⟩
  rw [hZ]
  refine q_enter hG mf_X10_logged (Nat.le_of_ble_eq_true rfl) ?_
  intro p e s m below meth c X hret
  have hT_36 : gT G 36 = 9 := hM 36 (by decide) (by decide)
  have hT_37 : gT G 37 = 10 := hM 37 (by decide) (by decide)
  refine q_lv (lv2 := [(0, .ref (gA G 36 0)), (1, .int ix), (2, .int wh)]) rfl ?_
  refine q_aload_n X 0 dX10_logged_0 rfl ?_
  refine q_iconst (v := 0) X dX10_logged_1 (by decide) ?_
  obtain ⟨r1, e_r1⟩ : ∃ z : Nat → Int32, z = va_up κ 0 0 := ⟨_, rfl⟩
  refine q_put (fk := 0) (h2 := va_up h 36 r1) X cf_X10 (ac_9_0 hT_36) (by decide) fl_X10_25 rfl rfl (by rw [hT_36]; rfl) rfl rfl rfl dX10_logged_2 (hr_36) (by rw [e_r1]) ?_
  refine q_iload_n X 1 dX10_logged_5 rfl ?_
  refine q_if_lt (tgt := 18) X dX10_logged_6 (by decide) (fun c2 => ?_) (fun c2 => ?_)
  · skip
    refine q_ldc X kc_X10_47 dX10_logged_18 ?_
    have E : Z = ((-100001), r1) := by subst e_r1; exact hZ.symm.trans ((if_pos c2).trans rfl)
    exact q_iret X hret dX10_logged_20 (by rw [E]) (by rw [E])
  · skip
    refine q_iload_n X 2 dX10_logged_9 rfl ?_
    refine q_iconst (v := 0) X dX10_logged_10 (by decide) ?_
    refine q_iconst (v := 5) X dX10_logged_11 (by decide) ?_
    refine q_callS (h1 := _) (rest := []) (As := [.int wh, .int 0, .int 5]) X (c_X10_in (l := l) hG   wh 0 5 ) mf_X10_in ms_X10_in lk_X10_39 rfl ⟨by decide, by decide⟩ ⟨Nat.le_refl _, Nat.le_refl _⟩ rfl (Nat.le_of_ble_eq_true rfl) dX10_logged_12 (st2 := [.int (S_X10_in wh 0 5)]) rfl ?_
    refine q_if_ne (tgt := 21) X dX10_logged_15 (by decide) (fun c3 => ?_) (fun c3 => ?_)
    · skip
      refine q_iload_n X 1 dX10_logged_21 rfl ?_
      refine q_aload_n X 0 dX10_logged_22 rfl ?_
      refine q_get (fk := 1) (v := .ref (gA G 37 0)) X cf_X10 (ac_9_0 hT_36) (by decide) fl_X10_7 rfl rfl dX10_logged_23 rfl ?_
      refine q_bipush (v := 63) X dX10_logged_26 (by decide) ?_
      refine q_iald (x := σ 63) X (ac_10_0 hT_37) (by rw [hT_37]; exact vin_lit (by decide)) dX10_logged_28 ((va_up_ne _ _ (by decide)).trans (hr_37)) rfl ?_
      suffices hJ6 : ∀ (m5 : Int32), m5 = (if (σ 63) ≤ ix then ((-100009)) else (σ (Int32.toNatClampNeg ((64 + (6 * ix)) + wh)))) → VV G (AA G) p l e { frames := 1, cells := 0, slots := 0, locals := 22 } s m ([.ref (gA G 36 0), .int ix, .int wh] : List Value).toArray below meth c 0 0 (MQ below (QC G (va_up h 36 Z.2) (some (.int Z.1))) ([.ref (gA G 36 0), .int ix, .int wh] : List Value).toArray s 0 0 (AA G)) 3 (va_up h 36 r1) 51 [(0, .ref (gA G 36 0)), (1, .int ix), (2, .int wh)] [.int m5] by
        refine q_icmp_ge (tgt := 49) X dX10_logged_29 (by decide) (fun c4 => ?_) (fun c4 => ?_)
        · skip
          refine q_ldc X kc_X10_81 dX10_logged_49 ?_
          refine q_sub (lv2 := [(0, .ref (gA G 36 0)), (1, .int ix), (2, .int wh)]) [0, 1, 2] rfl ?_
          exact hJ6 (-100009) (by exact ((if_pos c4).trans rfl).symm)
        · skip
          refine q_aload_n X 0 dX10_logged_32 rfl ?_
          refine q_get (fk := 1) (v := .ref (gA G 37 0)) X cf_X10 (ac_9_0 hT_36) (by decide) fl_X10_7 rfl rfl dX10_logged_33 rfl ?_
          refine q_bipush (v := 64) X dX10_logged_36 (by decide) ?_
          refine q_bipush (v := 6) X dX10_logged_38 (by decide) ?_
          refine q_iload_n X 1 dX10_logged_40 rfl ?_
          refine q_imul X dX10_logged_41 ?_
          refine q_iadd X dX10_logged_42 ?_
          refine q_iload_n X 2 dX10_logged_43 rfl ?_
          refine q_iadd X dX10_logged_44 ?_
          refine q_iald (x := σ (Int32.toNatClampNeg ((64 + (6 * ix)) + wh))) X (ac_10_0 hT_37) (by rw [hT_37]; exact ix_logged hl c2 c4 c3) dX10_logged_45 ((va_up_ne _ _ (by decide)).trans (hr_37)) (by rw [Nat.zero_add, Nat.one_mul]) ?_
          refine q_goto (tgt := 51) X dX10_logged_46 (by decide) ?_
          refine q_sub (lv2 := [(0, .ref (gA G 36 0)), (1, .int ix), (2, .int wh)]) [0, 1, 2] rfl ?_
          exact hJ6 (σ (Int32.toNatClampNeg ((64 + (6 * ix)) + wh))) (by exact ((if_neg c4).trans rfl).symm)
      intro m5 e_m5
      have E : Z = (m5, r1) := by subst e_m5; subst e_r1; exact hZ.symm.trans ((if_neg c2).trans ((if_neg c3).trans rfl))
      exact q_iret X hret dX10_logged_51 (by rw [E]) (by rw [E])
    · skip
      refine q_ldc X kc_X10_47 dX10_logged_18 ?_
      have E : Z = ((-100001), r1) := by subst e_r1; exact hZ.symm.trans ((if_neg c2).trans ((if_pos c3).trans rfl))
      exact q_iret X hret dX10_logged_20 (by rw [E]) (by rw [E])
