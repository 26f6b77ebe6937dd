theorem cr_i (a : Int32) : vp_in (26 + (a - a / 6 * 6)) 112 ∧ Int32.toNatClampNeg (26 + (a - a / 6 * 6)) < 32 ∧ Int32.toNatClampNeg (26 + (a - a / 6 * 6)) ≠ 5 := by
  have e := dr32 (a := a) (b := 6) (by decide)
  obtain ⟨h1, h2, h3, h4, h5⟩ := dv_t a.toInt (B := (6 : Int32).toInt) (by decide)
  have e6 : (6 : Int32).toInt = 6 := rfl
  rw [e6] at h2 h3 e
  have e2 : (26 + (a - a / 6 * 6)).toInt = 26 + (a - a / 6 * 6).toInt := ta (a := 26) (by show -2147483648 ≤ 26 + (a - a / 6 * 6).toInt; omega) (by show 26 + (a - a / 6 * 6).toInt < 2147483648; omega)
  have n := clN (x := 26 + (a - a / 6 * 6)) (by omega)
  exact ⟨vin_i (by omega) (by omega), by omega, by omega⟩
def S_X10_control (σ : Nat → Int32) : (Nat → Int32) := if (σ 9) = 0 then (σ) else (if (S_X10_targetAt σ (σ 18)) = (-100009) then (σ) else (let r3 : Nat → Int32 := va_up σ 13 (S_X10_clamp ((σ 13) + ((S_X10_targetAt σ (σ 18)) - (σ 4))) (-20000) 20000); va_up r3 7 (S_X10_clamp (((r3 12) + (S_X10_down ((r3 10) * ((S_X10_targetAt σ (σ 18)) - (σ 4))) 100)) + (S_X10_down ((r3 11) * (r3 13)) 1000)) 0 100)))
set_option maxRecDepth 100000 in
set_option maxHeartbeats 4000000 in
theorem c_X10_control {G : Geo} {l : Launch} (hG : GOK G) {h : Hp} {σ : Nat → Int32} (hM : MT G) (hr_37 : h 37 = σ) (hI : MI σ) : CM G l yX10_control cX10_control 3 none 2 48 [.ref (gA G 36 0)] h (va_up h 37 (S_X10_control σ)) none := by
  obtain ⟨Z, hZ⟩ : ∃ Z, S_X10_control σ = Z := ⟨_, rfl⟩
  rw [hZ]
  refine q_enter hG mf_X10_control (Nat.le_of_ble_eq_true rfl) ?_
  intro p e s m below meth c X hret
  have hT_36 : gT G 36 = 9 := hM 36 (by decide) (by decide)
  have hT_37 : gT G 37 = 10 := hM 37 (by decide) (by decide)
  refine q_lv (lv2 := [(0, .ref (gA G 36 0))]) rfl ?_
  refine q_aload_n X 0 dX10_control_0 rfl ?_
  refine q_aload_n X 0 dX10_control_1 rfl ?_
  refine q_get (fk := 1) (v := .ref (gA G 37 0)) X cf_X10 (ac_9_0 hT_36) (by decide) fl_X10_7 rfl rfl dX10_control_2 rfl ?_
  refine q_bipush (v := 18) X dX10_control_5 (by decide) ?_
  refine q_iald (x := σ 18) X (ac_10_0 hT_37) (by rw [hT_37]; exact vin_lit (by decide)) dX10_control_7 (hr_37) rfl ?_
  refine q_callV (h1 := _) (rest := []) (As := [.int (σ 18)]) X (c_X10_targetAt (l := l) hG (σ := σ)  (σ 18) hM (hr_37) hI) mf_X10_targetAt mv_X10_targetAt cf_X10 rfl (ac_9_0 hT_36) lk_X10_106 rfl ⟨by decide, by decide⟩ ⟨Nat.le_refl _, Nat.le_refl _⟩ rfl (Nat.le_of_ble_eq_true rfl) dX10_control_8 (st2 := [.int (S_X10_targetAt σ (σ 18))]) rfl ?_
  refine q_istore_n (lv' := [(1, .int (S_X10_targetAt σ (σ 18))), (0, .ref (gA G 36 0))]) X dX10_control_11 (by decide) rfl ?_
  refine q_aload_n X 1 dX10_control_12 rfl ?_
  refine q_get (fk := 1) (v := .ref (gA G 37 0)) X cf_X10 (ac_9_0 hT_36) (by decide) fl_X10_7 rfl rfl dX10_control_13 rfl ?_
  refine q_bipush (v := 9) X dX10_control_16 (by decide) ?_
  refine q_iald (x := σ 9) X (ac_10_0 hT_37) (by rw [hT_37]; exact vin_lit (by decide)) dX10_control_18 (hr_37) rfl ?_
  refine q_if_eq (tgt := 28) X dX10_control_19 (by decide) (fun c1 => ?_) (fun c1 => ?_)
  · skip
    have E : Z = σ := by exact hZ.symm.trans ((if_pos c1).trans rfl)
    exact q_vret X hret dX10_control_28 rfl (by rw [E]; exact va_up_id2 (hr_37))
  · skip
    refine q_iload_n X 0 dX10_control_22 rfl ?_
    refine q_ldc X kc_X10_81 dX10_control_23 ?_
    refine q_icmp_ne (tgt := 29) X dX10_control_25 (by decide) (fun c2 => ?_) (fun c2 => ?_)
    · skip
      refine q_iload_n X 0 dX10_control_29 rfl ?_
      refine q_aload_n X 1 dX10_control_30 rfl ?_
      refine q_get (fk := 1) (v := .ref (gA G 37 0)) X cf_X10 (ac_9_0 hT_36) (by decide) fl_X10_7 rfl rfl dX10_control_31 rfl ?_
      refine q_iconst (v := 4) X dX10_control_34 (by decide) ?_
      refine q_iald (x := σ 4) X (ac_10_0 hT_37) (by rw [hT_37]; exact vin_lit (by decide)) dX10_control_35 (hr_37) rfl ?_
      refine q_isub X dX10_control_36 ?_
      refine q_istore_n (lv' := [(2, .int ((S_X10_targetAt σ (σ 18)) - (σ 4))), (1, .int (S_X10_targetAt σ (σ 18))), (0, .ref (gA G 36 0))]) X dX10_control_37 (by decide) rfl ?_
      refine q_aload_n X 2 dX10_control_38 rfl ?_
      refine q_get (fk := 1) (v := .ref (gA G 37 0)) X cf_X10 (ac_9_0 hT_36) (by decide) fl_X10_7 rfl rfl dX10_control_39 rfl ?_
      refine q_bipush (v := 13) X dX10_control_42 (by decide) ?_
      refine q_aload_n X 2 dX10_control_44 rfl ?_
      refine q_get (fk := 1) (v := .ref (gA G 37 0)) X cf_X10 (ac_9_0 hT_36) (by decide) fl_X10_7 rfl rfl dX10_control_45 rfl ?_
      refine q_bipush (v := 13) X dX10_control_48 (by decide) ?_
      refine q_iald (x := σ 13) X (ac_10_0 hT_37) (by rw [hT_37]; exact vin_lit (by decide)) dX10_control_50 (hr_37) rfl ?_
      refine q_iload_n X 0 dX10_control_51 rfl ?_
      refine q_iadd X dX10_control_52 ?_
      refine q_sipush (v := (-20000)) X dX10_control_53 (by decide) ?_
      refine q_sipush (v := 20000) X dX10_control_56 (by decide) ?_
      refine q_callS (h1 := _) (rest := [.int 13, .ref (gA G 37 0)]) (As := [.int ((σ 13) + ((S_X10_targetAt σ (σ 18)) - (σ 4))), .int (-20000), .int 20000]) X (c_X10_clamp (l := l) hG   ((σ 13) + ((S_X10_targetAt σ (σ 18)) - (σ 4))) (-20000) 20000 ) mf_X10_clamp ms_X10_clamp lk_X10_100 rfl ⟨by decide, by decide⟩ ⟨Nat.le_refl _, Nat.le_refl _⟩ rfl (Nat.le_of_ble_eq_true rfl) dX10_control_59 (st2 := [.int (S_X10_clamp ((σ 13) + ((S_X10_targetAt σ (σ 18)) - (σ 4))) (-20000) 20000), .int 13, .ref (gA G 37 0)]) rfl ?_
      obtain ⟨r3, e_r3⟩ : ∃ z : Nat → Int32, z = va_up σ 13 (S_X10_clamp ((σ 13) + ((S_X10_targetAt σ (σ 18)) - (σ 4))) (-20000) 20000) := ⟨_, rfl⟩
      refine q_iast (h2 := va_up h 37 r3) X (ac_10_0 hT_37) (by rw [hT_37]; exact vin_lit (by decide)) dX10_control_62 (hr_37) (by rw [show 0 + 1 * Int32.toNatClampNeg 13 = 13 from rfl, e_r3]) ?_
      refine q_aload_n X 2 dX10_control_63 rfl ?_
      refine q_get (fk := 1) (v := .ref (gA G 37 0)) X cf_X10 (ac_9_0 hT_36) (by decide) fl_X10_7 rfl rfl dX10_control_64 rfl ?_
      refine q_bipush (v := 7) X dX10_control_67 (by decide) ?_
      refine q_aload_n X 2 dX10_control_69 rfl ?_
      refine q_get (fk := 1) (v := .ref (gA G 37 0)) X cf_X10 (ac_9_0 hT_36) (by decide) fl_X10_7 rfl rfl dX10_control_70 rfl ?_
      refine q_bipush (v := 12) X dX10_control_73 (by decide) ?_
      refine q_iald (x := r3 12) X (ac_10_0 hT_37) (by rw [hT_37]; exact vin_lit (by decide)) dX10_control_75 (va_up_self _ _ _) rfl ?_
      refine q_aload_n X 2 dX10_control_76 rfl ?_
      refine q_get (fk := 1) (v := .ref (gA G 37 0)) X cf_X10 (ac_9_0 hT_36) (by decide) fl_X10_7 rfl rfl dX10_control_77 rfl ?_
      refine q_bipush (v := 10) X dX10_control_80 (by decide) ?_
      refine q_iald (x := r3 10) X (ac_10_0 hT_37) (by rw [hT_37]; exact vin_lit (by decide)) dX10_control_82 (va_up_self _ _ _) rfl ?_
      refine q_iload_n X 0 dX10_control_83 rfl ?_
      refine q_imul X dX10_control_84 ?_
      refine q_bipush (v := 100) X dX10_control_85 (by decide) ?_
      refine q_callS (h1 := _) (rest := [.int (r3 12), .int 7, .ref (gA G 37 0)]) (As := [.int ((r3 10) * ((S_X10_targetAt σ (σ 18)) - (σ 4))), .int 100]) X (c_X10_down (l := l) hG   ((r3 10) * ((S_X10_targetAt σ (σ 18)) - (σ 4))) 100 (by decide)) mf_X10_down ms_X10_down lk_X10_103 rfl ⟨by decide, by decide⟩ ⟨Nat.le_refl _, Nat.le_refl _⟩ rfl (Nat.le_of_ble_eq_true rfl) dX10_control_87 (st2 := [.int (S_X10_down ((r3 10) * ((S_X10_targetAt σ (σ 18)) - (σ 4))) 100), .int (r3 12), .int 7, .ref (gA G 37 0)]) rfl ?_
      refine q_iadd X dX10_control_90 ?_
      refine q_aload_n X 2 dX10_control_91 rfl ?_
      refine q_get (fk := 1) (v := .ref (gA G 37 0)) X cf_X10 (ac_9_0 hT_36) (by decide) fl_X10_7 rfl rfl dX10_control_92 rfl ?_
      refine q_bipush (v := 11) X dX10_control_95 (by decide) ?_
      refine q_iald (x := r3 11) X (ac_10_0 hT_37) (by rw [hT_37]; exact vin_lit (by decide)) dX10_control_97 (va_up_self _ _ _) rfl ?_
      refine q_aload_n X 2 dX10_control_98 rfl ?_
      refine q_get (fk := 1) (v := .ref (gA G 37 0)) X cf_X10 (ac_9_0 hT_36) (by decide) fl_X10_7 rfl rfl dX10_control_99 rfl ?_
      refine q_bipush (v := 13) X dX10_control_102 (by decide) ?_
      refine q_iald (x := r3 13) X (ac_10_0 hT_37) (by rw [hT_37]; exact vin_lit (by decide)) dX10_control_104 (va_up_self _ _ _) rfl ?_
      refine q_imul X dX10_control_105 ?_
      refine q_sipush (v := 1000) X dX10_control_106 (by decide) ?_
      refine q_callS (h1 := _) (rest := [.int ((r3 12) + (S_X10_down ((r3 10) * ((S_X10_targetAt σ (σ 18)) - (σ 4))) 100)), .int 7, .ref (gA G 37 0)]) (As := [.int ((r3 11) * (r3 13)), .int 1000]) X (c_X10_down (l := l) hG   ((r3 11) * (r3 13)) 1000 (by decide)) mf_X10_down ms_X10_down lk_X10_103 rfl ⟨by decide, by decide⟩ ⟨Nat.le_refl _, Nat.le_refl _⟩ rfl (Nat.le_of_ble_eq_true rfl) dX10_control_109 (st2 := [.int (S_X10_down ((r3 11) * (r3 13)) 1000), .int ((r3 12) + (S_X10_down ((r3 10) * ((S_X10_targetAt σ (σ 18)) - (σ 4))) 100)), .int 7, .ref (gA G 37 0)]) rfl ?_
      refine q_iadd X dX10_control_112 ?_
      refine q_iconst (v := 0) X dX10_control_113 (by decide) ?_
      refine q_bipush (v := 100) X dX10_control_114 (by decide) ?_
      refine q_callS (h1 := _) (rest := [.int 7, .ref (gA G 37 0)]) (As := [.int (((r3 12) + (S_X10_down ((r3 10) * ((S_X10_targetAt σ (σ 18)) - (σ 4))) 100)) + (S_X10_down ((r3 11) * (r3 13)) 1000)), .int 0, .int 100]) X (c_X10_clamp (l := l) hG   (((r3 12) + (S_X10_down ((r3 10) * ((S_X10_targetAt σ (σ 18)) - (σ 4))) 100)) + (S_X10_down ((r3 11) * (r3 13)) 1000)) 0 100 ) mf_X10_clamp ms_X10_clamp lk_X10_100 rfl ⟨by decide, by decide⟩ ⟨Nat.le_refl _, Nat.le_refl _⟩ rfl (Nat.le_of_ble_eq_true rfl) dX10_control_116 (st2 := [.int (S_X10_clamp (((r3 12) + (S_X10_down ((r3 10) * ((S_X10_targetAt σ (σ 18)) - (σ 4))) 100)) + (S_X10_down ((r3 11) * (r3 13)) 1000)) 0 100), .int 7, .ref (gA G 37 0)]) rfl ?_
      obtain ⟨r4, e_r4⟩ : ∃ z : Nat → Int32, z = va_up r3 7 (S_X10_clamp (((r3 12) + (S_X10_down ((r3 10) * ((S_X10_targetAt σ (σ 18)) - (σ 4))) 100)) + (S_X10_down ((r3 11) * (r3 13)) 1000)) 0 100) := ⟨_, rfl⟩
      refine q_iast (h2 := va_up h 37 r4) X (ac_10_0 hT_37) (by rw [hT_37]; exact vin_lit (by decide)) dX10_control_119 (va_up_self _ _ _) (by rw [show 0 + 1 * Int32.toNatClampNeg 7 = 7 from rfl, e_r4, va_up_up]) ?_
      have E : Z = r4 := by subst e_r4; subst e_r3; exact hZ.symm.trans ((if_neg c1).trans ((if_neg c2).trans rfl))
      exact q_vret X hret dX10_control_120 rfl (by rw [E])
    · skip
      have E : Z = σ := by exact hZ.symm.trans ((if_neg c1).trans ((if_pos c2).trans rfl))
      exact q_vret X hret dX10_control_28 rfl (by rw [E]; exact va_up_id2 (hr_37))
theorem MI_X10_control {σ : Nat → Int32} (h : MI σ) : MI (S_X10_control σ) := by
  unfold S_X10_control
  (repeat' split) <;> first | exact h | exact MI_up (by decide) (by decide) (MI_up (by decide) (by decide) h)
def S_X10_crack (σ : Nat → Int32) : (Nat → Int32) := let m2 : Int32 := if (σ 14) ≤ (σ 16) then ((((σ 16) - (σ 14)) / 2) + 1) else (0); let m5 : Int32 := if m2 ≤ (1000 - (σ 20)) then (m2) else (1000 - (σ 20)); let r7 : Nat → Int32 := va_up σ 21 m5; let r8 : Nat → Int32 := va_up r7 20 ((r7 20) + (r7 21)); let r9 : Nat → Int32 := va_up r8 22 ((r8 22) + ((r8 21) - (r8 (Int32.toNatClampNeg (26 + ((r8 18) - (r8 18) / 6 * 6)))))); va_up r9 (Int32.toNatClampNeg (26 + ((r8 18) - (r8 18) / 6 * 6))) (r9 21)
set_option maxRecDepth 100000 in
set_option maxHeartbeats 4000000 in
theorem c_X10_crack {G : Geo} {l : Launch} (hG : GOK G) {h : Hp} {σ : Nat → Int32} (hM : MT G) (hr_37 : h 37 = σ) : CM G l yX10_crack cX10_crack 4 none 0 0 [.ref (gA G 36 0)] h (va_up h 37 (S_X10_crack σ)) none := by
  obtain ⟨Z, hZ⟩ : ∃ Z, S_X10_crack σ = Z := ⟨_, rfl⟩
  rw [hZ]
  refine q_enter hG mf_X10_crack (Nat.le_of_ble_eq_true rfl) ?_
  intro p e s m below meth c X hret
  have hT_36 : gT G 36 = 9 := hM 36 (by decide) (by decide)
  have hT_37 : gT G 37 = 10 := hM 37 (by decide) (by decide)
  refine q_lv (lv2 := [(0, .ref (gA G 36 0))]) rfl ?_
  refine q_sipush (v := 1000) X dX10_crack_0 (by decide) ?_
  refine q_aload_n X 0 dX10_crack_3 rfl ?_
  refine q_get (fk := 1) (v := .ref (gA G 37 0)) X cf_X10 (ac_9_0 hT_36) (by decide) fl_X10_7 rfl rfl dX10_crack_4 rfl ?_
  refine q_bipush (v := 20) X dX10_crack_7 (by decide) ?_
  refine q_iald (x := σ 20) X (ac_10_0 hT_37) (by rw [hT_37]; exact vin_lit (by decide)) dX10_crack_9 (hr_37) rfl ?_
  refine q_isub X dX10_crack_10 ?_
  refine q_istore_n (lv' := [(1, .int (1000 - (σ 20))), (0, .ref (gA G 36 0))]) X dX10_crack_11 (by decide) rfl ?_
  refine q_aload_n X 1 dX10_crack_12 rfl ?_
  refine q_get (fk := 1) (v := .ref (gA G 37 0)) X cf_X10 (ac_9_0 hT_36) (by decide) fl_X10_7 rfl rfl dX10_crack_13 rfl ?_
  refine q_bipush (v := 16) X dX10_crack_16 (by decide) ?_
  refine q_iald (x := σ 16) X (ac_10_0 hT_37) (by rw [hT_37]; exact vin_lit (by decide)) dX10_crack_18 (hr_37) rfl ?_
  refine q_aload_n X 1 dX10_crack_19 rfl ?_
  refine q_get (fk := 1) (v := .ref (gA G 37 0)) X cf_X10 (ac_9_0 hT_36) (by decide) fl_X10_7 rfl rfl dX10_crack_20 rfl ?_
  refine q_bipush (v := 14) X dX10_crack_23 (by decide) ?_
  refine q_iald (x := σ 14) X (ac_10_0 hT_37) (by rw [hT_37]; exact vin_lit (by decide)) dX10_crack_25 (hr_37) rfl ?_
  suffices hJ3 : ∀ (m2 : Int32), m2 = (if (σ 14) ≤ (σ 16) then ((((σ 16) - (σ 14)) / 2) + 1) else (0)) → VV G (AA G) p l e { frames := 0, cells := 0, slots := 0, locals := 0 } s m ([.ref (gA G 36 0)] : List Value).toArray below meth c 0 0 (MQ below (QC G (va_up h 37 Z) none) ([.ref (gA G 36 0)] : List Value).toArray s 0 0 (AA G)) 4 h 52 [(1, .int (1000 - (σ 20))), (0, .ref (gA G 36 0))] [.int m2] by
    refine q_icmp_ge (tgt := 33) X dX10_crack_26 (by decide) (fun c1 => ?_) (fun c1 => ?_)
    · skip
      refine q_aload_n X 1 dX10_crack_33 rfl ?_
      refine q_get (fk := 1) (v := .ref (gA G 37 0)) X cf_X10 (ac_9_0 hT_36) (by decide) fl_X10_7 rfl rfl dX10_crack_34 rfl ?_
      refine q_bipush (v := 16) X dX10_crack_37 (by decide) ?_
      refine q_iald (x := σ 16) X (ac_10_0 hT_37) (by rw [hT_37]; exact vin_lit (by decide)) dX10_crack_39 (hr_37) rfl ?_
      refine q_aload_n X 1 dX10_crack_40 rfl ?_
      refine q_get (fk := 1) (v := .ref (gA G 37 0)) X cf_X10 (ac_9_0 hT_36) (by decide) fl_X10_7 rfl rfl dX10_crack_41 rfl ?_
      refine q_bipush (v := 14) X dX10_crack_44 (by decide) ?_
      refine q_iald (x := σ 14) X (ac_10_0 hT_37) (by rw [hT_37]; exact vin_lit (by decide)) dX10_crack_46 (hr_37) rfl ?_
      refine q_isub X dX10_crack_47 ?_
      refine q_iconst (v := 2) X dX10_crack_48 (by decide) ?_
      refine q_idiv X dX10_crack_49 (by decide) ?_
      refine q_iconst (v := 1) X dX10_crack_50 (by decide) ?_
      refine q_iadd X dX10_crack_51 ?_
      refine q_sub (lv2 := [(1, .int (1000 - (σ 20))), (0, .ref (gA G 36 0))]) [0, 1] rfl ?_
      exact hJ3 ((((σ 16) - (σ 14)) / 2) + 1) (by exact ((if_pos c1).trans rfl).symm)
    · skip
      refine q_iconst (v := 0) X dX10_crack_29 (by decide) ?_
      refine q_goto (tgt := 52) X dX10_crack_30 (by decide) ?_
      refine q_sub (lv2 := [(1, .int (1000 - (σ 20))), (0, .ref (gA G 36 0))]) [0, 1] rfl ?_
      exact hJ3 0 (by exact ((if_neg c1).trans rfl).symm)
  intro m2 e_m2
  refine q_istore_n (lv' := [(2, .int m2), (1, .int (1000 - (σ 20))), (0, .ref (gA G 36 0))]) X dX10_crack_52 (by decide) rfl ?_
  refine q_aload_n X 2 dX10_crack_53 rfl ?_
  refine q_get (fk := 1) (v := .ref (gA G 37 0)) X cf_X10 (ac_9_0 hT_36) (by decide) fl_X10_7 rfl rfl dX10_crack_54 rfl ?_
  refine q_bipush (v := 21) X dX10_crack_57 (by decide) ?_
  refine q_iload_n X 0 dX10_crack_59 rfl ?_
  refine q_iload_n X 1 dX10_crack_60 rfl ?_
  suffices hJ6 : ∀ (m5 : Int32), m5 = (if m2 ≤ (1000 - (σ 20)) then (m2) else (1000 - (σ 20))) → VV G (AA G) p l e { frames := 0, cells := 0, slots := 0, locals := 0 } s m ([.ref (gA G 36 0)] : List Value).toArray below meth c 0 0 (MQ below (QC G (va_up h 37 Z) none) ([.ref (gA G 36 0)] : List Value).toArray s 0 0 (AA G)) 4 h 69 [(2, .int m2), (1, .int (1000 - (σ 20))), (0, .ref (gA G 36 0))] [.int m5, .int 21, .ref (gA G 37 0)] by
    refine q_icmp_le (tgt := 68) X dX10_crack_61 (by decide) (fun c4 => ?_) (fun c4 => ?_)
    · skip
      refine q_iload_n X 0 dX10_crack_68 rfl ?_
      refine q_sub (lv2 := [(2, .int m2), (1, .int (1000 - (σ 20))), (0, .ref (gA G 36 0))]) [0, 1, 2] rfl ?_
      exact hJ6 m2 (by exact ((if_pos c4).trans rfl).symm)
    · skip
      refine q_iload_n X 1 dX10_crack_64 rfl ?_
      refine q_goto (tgt := 69) X dX10_crack_65 (by decide) ?_
      refine q_sub (lv2 := [(2, .int m2), (1, .int (1000 - (σ 20))), (0, .ref (gA G 36 0))]) [0, 1, 2] rfl ?_
      exact hJ6 (1000 - (σ 20)) (by exact ((if_neg c4).trans rfl).symm)
  intro m5 e_m5
  obtain ⟨r7, e_r7⟩ : ∃ z : Nat → Int32, z = va_up σ 21 m5 := ⟨_, rfl⟩
  refine q_iast (h2 := va_up h 37 r7) X (ac_10_0 hT_37) (by rw [hT_37]; exact vin_lit (by decide)) dX10_crack_69 (hr_37) (by rw [show 0 + 1 * Int32.toNatClampNeg 21 = 21 from rfl, e_r7]) ?_
  refine q_aload_n X 2 dX10_crack_70 rfl ?_
  refine q_get (fk := 1) (v := .ref (gA G 37 0)) X cf_X10 (ac_9_0 hT_36) (by decide) fl_X10_7 rfl rfl dX10_crack_71 rfl ?_
  refine q_bipush (v := 20) X dX10_crack_74 (by decide) ?_
  refine q_dup2 X dX10_crack_76 rfl rfl ?_
  refine q_iald (x := r7 20) X (ac_10_0 hT_37) (by rw [hT_37]; exact vin_lit (by decide)) dX10_crack_77 (va_up_self _ _ _) rfl ?_
  refine q_aload_n X 2 dX10_crack_78 rfl ?_
  refine q_get (fk := 1) (v := .ref (gA G 37 0)) X cf_X10 (ac_9_0 hT_36) (by decide) fl_X10_7 rfl rfl dX10_crack_79 rfl ?_
  refine q_bipush (v := 21) X dX10_crack_82 (by decide) ?_
  refine q_iald (x := r7 21) X (ac_10_0 hT_37) (by rw [hT_37]; exact vin_lit (by decide)) dX10_crack_84 (va_up_self _ _ _) rfl ?_
  refine q_iadd X dX10_crack_85 ?_
  obtain ⟨r8, e_r8⟩ : ∃ z : Nat → Int32, z = va_up r7 20 ((r7 20) + (r7 21)) := ⟨_, rfl⟩
  refine q_iast (h2 := va_up h 37 r8) X (ac_10_0 hT_37) (by rw [hT_37]; exact vin_lit (by decide)) dX10_crack_86 (va_up_self _ _ _) (by rw [show 0 + 1 * Int32.toNatClampNeg 20 = 20 from rfl, e_r8, va_up_up]) ?_
  refine q_bipush (v := 26) X dX10_crack_87 (by decide) ?_
  refine q_aload_n X 2 dX10_crack_89 rfl ?_
  refine q_get (fk := 1) (v := .ref (gA G 37 0)) X cf_X10 (ac_9_0 hT_36) (by decide) fl_X10_7 rfl rfl dX10_crack_90 rfl ?_
  refine q_bipush (v := 18) X dX10_crack_93 (by decide) ?_
  refine q_iald (x := r8 18) X (ac_10_0 hT_37) (by rw [hT_37]; exact vin_lit (by decide)) dX10_crack_95 (va_up_self _ _ _) rfl ?_
  refine q_bipush (v := 6) X dX10_crack_96 (by decide) ?_
  refine q_irem X dX10_crack_98 (by decide) ?_
  refine q_iadd X dX10_crack_99 ?_
  refine q_istore_n (lv' := [(3, .int (26 + ((r8 18) - (r8 18) / 6 * 6))), (2, .int m2), (1, .int (1000 - (σ 20))), (0, .ref (gA G 36 0))]) X dX10_crack_100 (by decide) rfl ?_
  refine q_aload_n X 3 dX10_crack_101 rfl ?_
  refine q_get (fk := 1) (v := .ref (gA G 37 0)) X cf_X10 (ac_9_0 hT_36) (by decide) fl_X10_7 rfl rfl dX10_crack_102 rfl ?_
  refine q_bipush (v := 22) X dX10_crack_105 (by decide) ?_
  refine q_dup2 X dX10_crack_107 rfl rfl ?_
  refine q_iald (x := r8 22) X (ac_10_0 hT_37) (by rw [hT_37]; exact vin_lit (by decide)) dX10_crack_108 (va_up_self _ _ _) rfl ?_
  refine q_aload_n X 3 dX10_crack_109 rfl ?_
  refine q_get (fk := 1) (v := .ref (gA G 37 0)) X cf_X10 (ac_9_0 hT_36) (by decide) fl_X10_7 rfl rfl dX10_crack_110 rfl ?_
  refine q_bipush (v := 21) X dX10_crack_113 (by decide) ?_
  refine q_iald (x := r8 21) X (ac_10_0 hT_37) (by rw [hT_37]; exact vin_lit (by decide)) dX10_crack_115 (va_up_self _ _ _) rfl ?_
  refine q_aload_n X 3 dX10_crack_116 rfl ?_
  refine q_get (fk := 1) (v := .ref (gA G 37 0)) X cf_X10 (ac_9_0 hT_36) (by decide) fl_X10_7 rfl rfl dX10_crack_117 rfl ?_
  refine q_iload_n X 0 dX10_crack_120 rfl ?_
  refine q_iald (x := r8 (Int32.toNatClampNeg (26 + ((r8 18) - (r8 18) / 6 * 6)))) X (ac_10_0 hT_37) (by rw [hT_37]; exact (cr_i _).1) dX10_crack_121 (va_up_self _ _ _) (by rw [Nat.zero_add, Nat.one_mul]) ?_
  refine q_isub X dX10_crack_122 ?_
  refine q_iadd X dX10_crack_123 ?_
  obtain ⟨r9, e_r9⟩ : ∃ z : Nat → Int32, z = va_up r8 22 ((r8 22) + ((r8 21) - (r8 (Int32.toNatClampNeg (26 + ((r8 18) - (r8 18) / 6 * 6)))))) := ⟨_, rfl⟩
  refine q_iast (h2 := va_up h 37 r9) X (ac_10_0 hT_37) (by rw [hT_37]; exact vin_lit (by decide)) dX10_crack_124 (va_up_self _ _ _) (by rw [show 0 + 1 * Int32.toNatClampNeg 22 = 22 from rfl, e_r9, va_up_up]) ?_
  refine q_aload_n X 3 dX10_crack_125 rfl ?_
  refine q_get (fk := 1) (v := .ref (gA G 37 0)) X cf_X10 (ac_9_0 hT_36) (by decide) fl_X10_7 rfl rfl dX10_crack_126 rfl ?_
  refine q_iload_n X 0 dX10_crack_129 rfl ?_
  refine q_aload_n X 3 dX10_crack_130 rfl ?_
  refine q_get (fk := 1) (v := .ref (gA G 37 0)) X cf_X10 (ac_9_0 hT_36) (by decide) fl_X10_7 rfl rfl dX10_crack_131 rfl ?_
  refine q_bipush (v := 21) X dX10_crack_134 (by decide) ?_
  refine q_iald (x := r9 21) X (ac_10_0 hT_37) (by rw [hT_37]; exact vin_lit (by decide)) dX10_crack_136 (va_up_self _ _ _) rfl ?_
  obtain ⟨r10, e_r10⟩ : ∃ z : Nat → Int32, z = va_up r9 (Int32.toNatClampNeg (26 + ((r8 18) - (r8 18) / 6 * 6))) (r9 21) := ⟨_, rfl⟩
  refine q_iast (h2 := va_up h 37 r10) X (ac_10_0 hT_37) (by rw [hT_37]; exact (cr_i _).1) dX10_crack_137 (va_up_self _ _ _) (by rw [Nat.zero_add, Nat.one_mul, e_r10, va_up_up]) ?_
  have E : Z = r10 := by subst e_r10; subst e_r9; subst e_r8; subst e_r7; subst e_m5; subst e_m2; exact hZ.symm.trans (rfl)
  exact q_vret X hret dX10_crack_138 rfl (by rw [E])
theorem MI_X10_crack {σ : Nat → Int32} (h : MI σ) : MI (S_X10_crack σ) := by
  unfold S_X10_crack
  exact MI_up (cr_i _).2.1 (cr_i _).2.2 (MI_up (by decide) (by decide) (MI_up (by decide) (by decide) (MI_up (by decide) (by decide) h)))
def S_X10_detect (σ : Nat → Int32) : (Nat → Int32) := if (σ 22) < (σ 15) then (if (σ 23) = (-100009) then (va_up σ 23 (-100009)) else (if (σ 24) = (-100009) then (va_up σ 24 (σ 18)) else (σ))) else (if (σ 23) = (-100009) then (va_up σ 23 (σ 18)) else (if (σ 24) = (-100009) then (σ) else (σ)))
set_option maxRecDepth 100000 in
set_option maxHeartbeats 4000000 in
theorem c_X10_detect {G : Geo} {l : Launch} (hG : GOK G) {h : Hp} {σ : Nat → Int32} (hM : MT G) (hr_37 : h 37 = σ) : CM G l yX10_detect cX10_detect 2 none 0 0 [.ref (gA G 36 0)] h (va_up h 37 (S_X10_detect σ)) none := by
  obtain ⟨Z, hZ⟩ : ∃ Z, S_X10_detect σ = Z := ⟨_, rfl⟩
  rw [hZ]
  refine q_enter hG mf_X10_detect (Nat.le_of_ble_eq_true rfl) ?_
  intro p e s m below meth c X hret
  have hT_36 : gT G 36 = 9 := hM 36 (by decide) (by decide)
  have hT_37 : gT G 37 = 10 := hM 37 (by decide) (by decide)
  refine q_lv (lv2 := [(0, .ref (gA G 36 0))]) rfl ?_
  refine q_aload_n X 0 dX10_detect_0 rfl ?_
  refine q_get (fk := 1) (v := .ref (gA G 37 0)) X cf_X10 (ac_9_0 hT_36) (by decide) fl_X10_7 rfl rfl dX10_detect_1 rfl ?_
  refine q_bipush (v := 22) X dX10_detect_4 (by decide) ?_
  refine q_iald (x := σ 22) X (ac_10_0 hT_37) (by rw [hT_37]; exact vin_lit (by decide)) dX10_detect_6 (hr_37) rfl ?_
  refine q_aload_n X 0 dX10_detect_7 rfl ?_
  refine q_get (fk := 1) (v := .ref (gA G 37 0)) X cf_X10 (ac_9_0 hT_36) (by decide) fl_X10_7 rfl rfl dX10_detect_8 rfl ?_
  refine q_bipush (v := 15) X dX10_detect_11 (by decide) ?_
  refine q_iald (x := σ 15) X (ac_10_0 hT_37) (by rw [hT_37]; exact vin_lit (by decide)) dX10_detect_13 (hr_37) rfl ?_
  refine q_icmp_lt (tgt := 21) X dX10_detect_14 (by decide) (fun c1 => ?_) (fun c1 => ?_)
  · skip
    refine q_iconst (v := 0) X dX10_detect_21 (by decide) ?_
    refine q_istore_n (lv' := [(1, .int 0), (0, .ref (gA G 36 0))]) X dX10_detect_22 (by decide) rfl ?_
    refine q_aload_n X 1 dX10_detect_23 rfl ?_
    refine q_get (fk := 1) (v := .ref (gA G 37 0)) X cf_X10 (ac_9_0 hT_36) (by decide) fl_X10_7 rfl rfl dX10_detect_24 rfl ?_
    refine q_bipush (v := 23) X dX10_detect_27 (by decide) ?_
    refine q_iald (x := σ 23) X (ac_10_0 hT_37) (by rw [hT_37]; exact vin_lit (by decide)) dX10_detect_29 (hr_37) rfl ?_
    refine q_ldc X kc_X10_81 dX10_detect_30 ?_
    refine q_icmp_ne (tgt := 61) X dX10_detect_32 (by decide) (fun c2 => ?_) (fun c2 => ?_)
    · skip
      refine q_aload_n X 1 dX10_detect_61 rfl ?_
      refine q_get (fk := 1) (v := .ref (gA G 37 0)) X cf_X10 (ac_9_0 hT_36) (by decide) fl_X10_7 rfl rfl dX10_detect_62 rfl ?_
      refine q_bipush (v := 24) X dX10_detect_65 (by decide) ?_
      refine q_iald (x := σ 24) X (ac_10_0 hT_37) (by rw [hT_37]; exact vin_lit (by decide)) dX10_detect_67 (hr_37) rfl ?_
      refine q_ldc X kc_X10_81 dX10_detect_68 ?_
      refine q_icmp_ne (tgt := 91) X dX10_detect_70 (by decide) (fun c3 => ?_) (fun c3 => ?_)
      · skip
        have E : Z = σ := by exact hZ.symm.trans ((if_pos c1).trans ((if_neg c2).trans ((if_neg c3).trans rfl)))
        exact q_vret X hret dX10_detect_91 rfl (by rw [E]; exact va_up_id2 (hr_37))
      · skip
        refine q_iload_n X 0 dX10_detect_73 rfl ?_
        refine q_if_ne (tgt := 91) X dX10_detect_74 (by decide) (fun q => absurd (show (0 : Int32) = (0 : Int32) from by decide) q) (fun _ => ?_)
        refine q_aload_n X 1 dX10_detect_77 rfl ?_
        refine q_get (fk := 1) (v := .ref (gA G 37 0)) X cf_X10 (ac_9_0 hT_36) (by decide) fl_X10_7 rfl rfl dX10_detect_78 rfl ?_
        refine q_bipush (v := 24) X dX10_detect_81 (by decide) ?_
        refine q_aload_n X 1 dX10_detect_83 rfl ?_
        refine q_get (fk := 1) (v := .ref (gA G 37 0)) X cf_X10 (ac_9_0 hT_36) (by decide) fl_X10_7 rfl rfl dX10_detect_84 rfl ?_
        refine q_bipush (v := 18) X dX10_detect_87 (by decide) ?_
        refine q_iald (x := σ 18) X (ac_10_0 hT_37) (by rw [hT_37]; exact vin_lit (by decide)) dX10_detect_89 (hr_37) rfl ?_
        obtain ⟨r4, e_r4⟩ : ∃ z : Nat → Int32, z = va_up σ 24 (σ 18) := ⟨_, rfl⟩
        refine q_iast (h2 := va_up h 37 r4) X (ac_10_0 hT_37) (by rw [hT_37]; exact vin_lit (by decide)) dX10_detect_90 (hr_37) (by rw [show 0 + 1 * Int32.toNatClampNeg 24 = 24 from rfl, e_r4]) ?_
        have E : Z = r4 := by subst e_r4; exact hZ.symm.trans ((if_pos c1).trans ((if_neg c2).trans ((if_pos c3).trans rfl)))
        exact q_vret X hret dX10_detect_91 rfl (by rw [E])
    · skip
      refine q_aload_n X 1 dX10_detect_35 rfl ?_
      refine q_get (fk := 1) (v := .ref (gA G 37 0)) X cf_X10 (ac_9_0 hT_36) (by decide) fl_X10_7 rfl rfl dX10_detect_36 rfl ?_
      refine q_bipush (v := 23) X dX10_detect_39 (by decide) ?_
      refine q_iload_n X 0 dX10_detect_41 rfl ?_
      refine q_if_eq (tgt := 55) X dX10_detect_42 (by decide) (fun _ => ?_) (fun q => absurd (show (0 : Int32) = (0 : Int32) from by decide) q)
      refine q_ldc X kc_X10_81 dX10_detect_55 ?_
      obtain ⟨r5, e_r5⟩ : ∃ z : Nat → Int32, z = va_up σ 23 (-100009) := ⟨_, rfl⟩
      refine q_iast (h2 := va_up h 37 r5) X (ac_10_0 hT_37) (by rw [hT_37]; exact vin_lit (by decide)) dX10_detect_57 (hr_37) (by rw [show 0 + 1 * Int32.toNatClampNeg 23 = 23 from rfl, e_r5]) ?_
      refine q_goto (tgt := 91) X dX10_detect_58 (by decide) ?_
      have E : Z = r5 := by subst e_r5; exact hZ.symm.trans ((if_pos c1).trans ((if_pos c2).trans rfl))
      exact q_vret X hret dX10_detect_91 rfl (by rw [E])
  · skip
    refine q_iconst (v := 1) X dX10_detect_17 (by decide) ?_
    refine q_goto (tgt := 22) X dX10_detect_18 (by decide) ?_
    refine q_istore_n (lv' := [(1, .int 1), (0, .ref (gA G 36 0))]) X dX10_detect_22 (by decide) rfl ?_
    refine q_aload_n X 1 dX10_detect_23 rfl ?_
    refine q_get (fk := 1) (v := .ref (gA G 37 0)) X cf_X10 (ac_9_0 hT_36) (by decide) fl_X10_7 rfl rfl dX10_detect_24 rfl ?_
    refine q_bipush (v := 23) X dX10_detect_27 (by decide) ?_
    refine q_iald (x := σ 23) X (ac_10_0 hT_37) (by rw [hT_37]; exact vin_lit (by decide)) dX10_detect_29 (hr_37) rfl ?_
    refine q_ldc X kc_X10_81 dX10_detect_30 ?_
    refine q_icmp_ne (tgt := 61) X dX10_detect_32 (by decide) (fun c6 => ?_) (fun c6 => ?_)
    · skip
      refine q_aload_n X 1 dX10_detect_61 rfl ?_
      refine q_get (fk := 1) (v := .ref (gA G 37 0)) X cf_X10 (ac_9_0 hT_36) (by decide) fl_X10_7 rfl rfl dX10_detect_62 rfl ?_
      refine q_bipush (v := 24) X dX10_detect_65 (by decide) ?_
      refine q_iald (x := σ 24) X (ac_10_0 hT_37) (by rw [hT_37]; exact vin_lit (by decide)) dX10_detect_67 (hr_37) rfl ?_
      refine q_ldc X kc_X10_81 dX10_detect_68 ?_
      refine q_icmp_ne (tgt := 91) X dX10_detect_70 (by decide) (fun c7 => ?_) (fun c7 => ?_)
      · skip
        have E : Z = σ := by exact hZ.symm.trans ((if_neg c1).trans ((if_neg c6).trans ((if_neg c7).trans rfl)))
        exact q_vret X hret dX10_detect_91 rfl (by rw [E]; exact va_up_id2 (hr_37))
      · skip
        refine q_iload_n X 0 dX10_detect_73 rfl ?_
        refine q_if_ne (tgt := 91) X dX10_detect_74 (by decide) (fun _ => ?_) (fun q => absurd q (show ¬ (1 : Int32) = (0 : Int32) from by decide))
        have E : Z = σ := by exact hZ.symm.trans ((if_neg c1).trans ((if_neg c6).trans ((if_pos c7).trans rfl)))
        exact q_vret X hret dX10_detect_91 rfl (by rw [E]; exact va_up_id2 (hr_37))
    · skip
      refine q_aload_n X 1 dX10_detect_35 rfl ?_
      refine q_get (fk := 1) (v := .ref (gA G 37 0)) X cf_X10 (ac_9_0 hT_36) (by decide) fl_X10_7 rfl rfl dX10_detect_36 rfl ?_
      refine q_bipush (v := 23) X dX10_detect_39 (by decide) ?_
      refine q_iload_n X 0 dX10_detect_41 rfl ?_
      refine q_if_eq (tgt := 55) X dX10_detect_42 (by decide) (fun q => absurd q (show ¬ (1 : Int32) = (0 : Int32) from by decide)) (fun _ => ?_)
      refine q_aload_n X 1 dX10_detect_45 rfl ?_
      refine q_get (fk := 1) (v := .ref (gA G 37 0)) X cf_X10 (ac_9_0 hT_36) (by decide) fl_X10_7 rfl rfl dX10_detect_46 rfl ?_
      refine q_bipush (v := 18) X dX10_detect_49 (by decide) ?_
      refine q_iald (x := σ 18) X (ac_10_0 hT_37) (by rw [hT_37]; exact vin_lit (by decide)) dX10_detect_51 (hr_37) rfl ?_
      refine q_goto (tgt := 57) X dX10_detect_52 (by decide) ?_
      obtain ⟨r8, e_r8⟩ : ∃ z : Nat → Int32, z = va_up σ 23 (σ 18) := ⟨_, rfl⟩
      refine q_iast (h2 := va_up h 37 r8) X (ac_10_0 hT_37) (by rw [hT_37]; exact vin_lit (by decide)) dX10_detect_57 (hr_37) (by rw [show 0 + 1 * Int32.toNatClampNeg 23 = 23 from rfl, e_r8]) ?_
      refine q_goto (tgt := 91) X dX10_detect_58 (by decide) ?_
      have E : Z = r8 := by subst e_r8; exact hZ.symm.trans ((if_neg c1).trans ((if_pos c6).trans rfl))
      exact q_vret X hret dX10_detect_91 rfl (by rw [E])
theorem MI_X10_detect {σ : Nat → Int32} (h : MI σ) : MI (S_X10_detect σ) := by
  unfold S_X10_detect
  (repeat' split) <;> first | exact h | exact MI_up (by decide) (by decide) h
def T_X10_tick_r1 (σ : Nat → Int32) : Nat → Int32 := va_up σ 0 ((σ 0) + 1)
def T_X10_tick_m3 (σ : Nat → Int32) : Int32 := if (S_X10_isRoasting σ) = 0 then (0) else (1)
def T_X10_tick_r5 (σ : Nat → Int32) : Nat → Int32 := va_up (T_X10_tick_r1 σ) 18 (((T_X10_tick_r1 σ) 18) + (T_X10_tick_m3 σ))
def T_X10_tick_m7 (σ : Nat → Int32) : Nat → Int32 := if (S_X10_isRoasting σ) = 0 then ((T_X10_tick_r5 σ)) else (S_X10_control (T_X10_tick_r5 σ))
def T_X10_tick_r10 (σ : Nat → Int32) : Nat → Int32 := va_up (T_X10_tick_m7 σ) 2 (((T_X10_tick_m7 σ) 2) + (S_X10_down ((8 * ((T_X10_tick_m7 σ) 7)) - (S_X10_down (((T_X10_tick_m7 σ) 2) - ((T_X10_tick_m7 σ) 3)) 5)) 10))
def T_X10_tick_m12 (σ : Nat → Int32) : Nat → Int32 := if (S_X10_isRoasting σ) = 0 then (if ((T_X10_tick_r10 σ) 1) = 2 then (va_up (T_X10_tick_r10 σ) 16 (((T_X10_tick_r10 σ) 16) - (S_X10_down ((((T_X10_tick_r10 σ) 16) - ((T_X10_tick_r10 σ) 3)) * ((T_X10_tick_r10 σ) 8)) 100))) else ((T_X10_tick_r10 σ))) else (let r15 : Nat → Int32 := va_up (T_X10_tick_r10 σ) 2 (((T_X10_tick_r10 σ) 2) - (S_X10_down ((((T_X10_tick_m7 σ) 2) - ((T_X10_tick_r10 σ) 16)) * ((T_X10_tick_r10 σ) 17)) 20000)); let r16 : Nat → Int32 := va_up r15 16 ((r15 16) + (S_X10_down ((r15 2) - (r15 16)) 20)); let m18 : Int32 := if (r16 16) ≤ (r16 25) then (r16 25) else (r16 16); let r20 : Nat → Int32 := va_up r16 25 m18; let r21 : Nat → Int32 := S_X10_crack r20; va_up r21 19 ((r21 19) + (S_X10_rateAt r21 (r21 16))))
def T_X10_tick_m25 (σ : Nat → Int32) : Int32 := if (S_X10_isRoasting σ) = 0 then ((T_X10_tick_m12 σ) 2) else ((T_X10_tick_m12 σ) 16)
def T_X10_tick_r27 (σ : Nat → Int32) : Nat → Int32 := va_up (T_X10_tick_m12 σ) 4 (((T_X10_tick_m12 σ) 4) + (S_X10_down ((T_X10_tick_m25 σ) - ((T_X10_tick_m12 σ) 4)) ((T_X10_tick_m12 σ) 5)))
def T_X10_tick_m29 (σ : Nat → Int32) : Nat → Int32 := if (S_X10_isRoasting σ) = 0 then ((T_X10_tick_r27 σ)) else (S_X10_detect (T_X10_tick_r27 σ))
def S_X10_tick (σ : Nat → Int32) : (Nat → Int32) := (T_X10_tick_m29 σ)
set_option maxRecDepth 100000 in
set_option maxHeartbeats 4000000 in
theorem c_X10_tick {G : Geo} {l : Launch} (hG : GOK G) {h : Hp} {σ : Nat → Int32} (hM : MT G) (hr_37 : h 37 = σ) (hI : MI σ) : CM G l yX10_tick cX10_tick 3 none 3 70 [.ref (gA G 36 0)] h (va_up h 37 (S_X10_tick σ)) none := by
  obtain ⟨Z, hZ⟩ : ∃ Z, S_X10_tick σ = Z := ⟨_, rfl⟩
  rw [hZ]
  refine q_enter hG mf_X10_tick (Nat.le_of_ble_eq_true rfl) ?_
  intro p e s m below meth c X hret
  have hT_36 : gT G 36 = 9 := hM 36 (by decide) (by decide)
  have hT_37 : gT G 37 = 10 := hM 37 (by decide) (by decide)
  refine q_lv (lv2 := [(0, .ref (gA G 36 0))]) rfl ?_
  refine q_aload_n X 0 dX10_tick_0 rfl ?_
  refine q_callV (h1 := _) (rest := []) (As := []) X (c_X10_isRoasting (l := l) hG (σ := σ)   hM (hr_37)) mf_X10_isRoasting mv_X10_isRoasting cf_X10 rfl (ac_9_0 hT_36) lk_X10_96 rfl ⟨by decide, by decide⟩ ⟨Nat.le_refl _, Nat.le_refl _⟩ rfl (Nat.le_of_ble_eq_true rfl) dX10_tick_1 (st2 := [.int (S_X10_isRoasting σ)]) rfl ?_
  refine q_istore_n (lv' := [(1, .int (S_X10_isRoasting σ)), (0, .ref (gA G 36 0))]) X dX10_tick_4 (by decide) rfl ?_
  refine q_aload_n X 1 dX10_tick_5 rfl ?_
  refine q_get (fk := 1) (v := .ref (gA G 37 0)) X cf_X10 (ac_9_0 hT_36) (by decide) fl_X10_7 rfl rfl dX10_tick_6 rfl ?_
  refine q_iconst (v := 0) X dX10_tick_9 (by decide) ?_
  refine q_dup2 X dX10_tick_10 rfl rfl ?_
  refine q_iald (x := σ 0) X (ac_10_0 hT_37) (by rw [hT_37]; exact vin_lit (by decide)) dX10_tick_11 (hr_37) rfl ?_
  refine q_iconst (v := 1) X dX10_tick_12 (by decide) ?_
  refine q_iadd X dX10_tick_13 ?_
  obtain ⟨r1, e_r1⟩ : ∃ z : Nat → Int32, z = va_up σ 0 ((σ 0) + 1) := ⟨_, rfl⟩
  have i_r1 : MI r1 := by rw [e_r1]; exact MI_up (by decide) (by decide) hI
  refine q_iast (h2 := va_up h 37 r1) X (ac_10_0 hT_37) (by rw [hT_37]; exact vin_lit (by decide)) dX10_tick_14 (hr_37) (by rw [show 0 + 1 * Int32.toNatClampNeg 0 = 0 from rfl, e_r1]) ?_
  refine q_aload_n X 1 dX10_tick_15 rfl ?_
  refine q_get (fk := 1) (v := .ref (gA G 37 0)) X cf_X10 (ac_9_0 hT_36) (by decide) fl_X10_7 rfl rfl dX10_tick_16 rfl ?_
  refine q_bipush (v := 18) X dX10_tick_19 (by decide) ?_
  refine q_dup2 X dX10_tick_21 rfl rfl ?_
  refine q_iald (x := r1 18) X (ac_10_0 hT_37) (by rw [hT_37]; exact vin_lit (by decide)) dX10_tick_22 (va_up_self _ _ _) rfl ?_
  refine q_iload_n X 0 dX10_tick_23 rfl ?_
  suffices hJ4 : ∀ (m3 : Int32), m3 = (if (S_X10_isRoasting σ) = 0 then (0) else (1)) → VV G (AA G) p l e { frames := 3, cells := 0, slots := 0, locals := 70 } s m ([.ref (gA G 36 0)] : List Value).toArray below meth c 0 0 (MQ below (QC G (va_up h 37 Z) none) ([.ref (gA G 36 0)] : List Value).toArray s 0 0 (AA G)) 3 (va_up h 37 r1) 32 [(1, .int (S_X10_isRoasting σ)), (0, .ref (gA G 36 0))] [.int m3, .int (r1 18), .int 18, .ref (gA G 37 0)] by
    refine q_if_eq (tgt := 31) X dX10_tick_24 (by decide) (fun c2 => ?_) (fun c2 => ?_)
    · skip
      refine q_iconst (v := 0) X dX10_tick_31 (by decide) ?_
      refine q_sub (lv2 := [(1, .int (S_X10_isRoasting σ)), (0, .ref (gA G 36 0))]) [0, 1] rfl ?_
      exact hJ4 0 (by exact ((if_pos c2).trans rfl).symm)
    · skip
      refine q_iconst (v := 1) X dX10_tick_27 (by decide) ?_
      refine q_goto (tgt := 32) X dX10_tick_28 (by decide) ?_
      refine q_sub (lv2 := [(1, .int (S_X10_isRoasting σ)), (0, .ref (gA G 36 0))]) [0, 1] rfl ?_
      exact hJ4 1 (by exact ((if_neg c2).trans rfl).symm)
  intro m3 e_m3
  refine q_iadd X dX10_tick_32 ?_
  obtain ⟨r5, e_r5⟩ : ∃ z : Nat → Int32, z = va_up r1 18 ((r1 18) + m3) := ⟨_, rfl⟩
  have i_r5 : MI r5 := by rw [e_r5]; exact MI_up (by decide) (by decide) i_r1
  refine q_iast (h2 := va_up h 37 r5) X (ac_10_0 hT_37) (by rw [hT_37]; exact vin_lit (by decide)) dX10_tick_33 (va_up_self _ _ _) (by rw [show 0 + 1 * Int32.toNatClampNeg 18 = 18 from rfl, e_r5, va_up_up]) ?_
  refine q_iload_n X 0 dX10_tick_34 rfl ?_
  suffices hJ9 : ∀ (m7 : Nat → Int32), m7 = (if (S_X10_isRoasting σ) = 0 then (r5) else (S_X10_control r5)) → MI m7 → VV G (AA G) p l e { frames := 3, cells := 0, slots := 0, locals := 70 } s m ([.ref (gA G 36 0)] : List Value).toArray below meth c 0 0 (MQ below (QC G (va_up h 37 Z) none) ([.ref (gA G 36 0)] : List Value).toArray s 0 0 (AA G)) 3 (va_up h 37 m7) 42 [(1, .int (S_X10_isRoasting σ)), (0, .ref (gA G 36 0))] [] by
    refine q_if_eq (tgt := 42) X dX10_tick_35 (by decide) (fun c6 => ?_) (fun c6 => ?_)
    · skip
      refine q_sub (lv2 := [(1, .int (S_X10_isRoasting σ)), (0, .ref (gA G 36 0))]) [0, 1] rfl ?_
      exact hJ9 r5 (by exact ((if_pos c6).trans rfl).symm) i_r5
    · skip
      refine q_aload_n X 1 dX10_tick_38 rfl ?_
      obtain ⟨r8, e_r8⟩ : ∃ z : Nat → Int32, z = S_X10_control r5 := ⟨_, rfl⟩
      have i_r8 : MI r8 := by rw [e_r8]; exact MI_X10_control i_r5
      refine q_callV (h1 := _) (rest := []) (As := []) X (c_X10_control (l := l) hG (σ := r5)   hM (va_up_self _ _ _) i_r5) mf_X10_control mv_X10_control cf_X10 rfl (ac_9_0 hT_36) lk_X10_110 rfl ⟨by decide, by decide⟩ ⟨Nat.le_refl _, Nat.le_refl _⟩ rfl (Nat.le_of_ble_eq_true rfl) dX10_tick_39 (st2 := []) rfl ?_
      refine q_eq (h2 := va_up h 37 r8) (by rw [e_r8]; exact va_up_up _ _ _ _) rfl ?_
      refine q_sub (lv2 := [(1, .int (S_X10_isRoasting σ)), (0, .ref (gA G 36 0))]) [0, 1] rfl ?_
      exact hJ9 r8 (by subst e_r8; exact ((if_neg c6).trans rfl).symm) i_r8
  intro m7 e_m7 i_m7
  refine q_aload_n X 1 dX10_tick_42 rfl ?_
  refine q_get (fk := 1) (v := .ref (gA G 37 0)) X cf_X10 (ac_9_0 hT_36) (by decide) fl_X10_7 rfl rfl dX10_tick_43 rfl ?_
  refine q_iconst (v := 2) X dX10_tick_46 (by decide) ?_
  refine q_iald (x := m7 2) X (ac_10_0 hT_37) (by rw [hT_37]; exact vin_lit (by decide)) dX10_tick_47 (va_up_self _ _ _) rfl ?_
  refine q_istore_n (lv' := [(2, .int (m7 2)), (1, .int (S_X10_isRoasting σ)), (0, .ref (gA G 36 0))]) X dX10_tick_48 (by decide) rfl ?_
  refine q_aload_n X 2 dX10_tick_49 rfl ?_
  refine q_get (fk := 1) (v := .ref (gA G 37 0)) X cf_X10 (ac_9_0 hT_36) (by decide) fl_X10_7 rfl rfl dX10_tick_50 rfl ?_
  refine q_iconst (v := 2) X dX10_tick_53 (by decide) ?_
  refine q_dup2 X dX10_tick_54 rfl rfl ?_
  refine q_iald (x := m7 2) X (ac_10_0 hT_37) (by rw [hT_37]; exact vin_lit (by decide)) dX10_tick_55 (va_up_self _ _ _) rfl ?_
  refine q_bipush (v := 8) X dX10_tick_56 (by decide) ?_
  refine q_aload_n X 2 dX10_tick_58 rfl ?_
  refine q_get (fk := 1) (v := .ref (gA G 37 0)) X cf_X10 (ac_9_0 hT_36) (by decide) fl_X10_7 rfl rfl dX10_tick_59 rfl ?_
  refine q_bipush (v := 7) X dX10_tick_62 (by decide) ?_
  refine q_iald (x := m7 7) X (ac_10_0 hT_37) (by rw [hT_37]; exact vin_lit (by decide)) dX10_tick_64 (va_up_self _ _ _) rfl ?_
  refine q_imul X dX10_tick_65 ?_
  refine q_iload_n X 0 dX10_tick_66 rfl ?_
  refine q_aload_n X 2 dX10_tick_67 rfl ?_
  refine q_get (fk := 1) (v := .ref (gA G 37 0)) X cf_X10 (ac_9_0 hT_36) (by decide) fl_X10_7 rfl rfl dX10_tick_68 rfl ?_
  refine q_iconst (v := 3) X dX10_tick_71 (by decide) ?_
  refine q_iald (x := m7 3) X (ac_10_0 hT_37) (by rw [hT_37]; exact vin_lit (by decide)) dX10_tick_72 (va_up_self _ _ _) rfl ?_
  refine q_isub X dX10_tick_73 ?_
  refine q_iconst (v := 5) X dX10_tick_74 (by decide) ?_
  refine q_callS (h1 := _) (rest := [.int (8 * (m7 7)), .int (m7 2), .int 2, .ref (gA G 37 0)]) (As := [.int ((m7 2) - (m7 3)), .int 5]) X (c_X10_down (l := l) hG   ((m7 2) - (m7 3)) 5 (by decide)) mf_X10_down ms_X10_down lk_X10_103 rfl ⟨by decide, by decide⟩ ⟨Nat.le_refl _, Nat.le_refl _⟩ rfl (Nat.le_of_ble_eq_true rfl) dX10_tick_75 (st2 := [.int (S_X10_down ((m7 2) - (m7 3)) 5), .int (8 * (m7 7)), .int (m7 2), .int 2, .ref (gA G 37 0)]) rfl ?_
  refine q_isub X dX10_tick_78 ?_
  refine q_bipush (v := 10) X dX10_tick_79 (by decide) ?_
  refine q_callS (h1 := _) (rest := [.int (m7 2), .int 2, .ref (gA G 37 0)]) (As := [.int ((8 * (m7 7)) - (S_X10_down ((m7 2) - (m7 3)) 5)), .int 10]) X (c_X10_down (l := l) hG   ((8 * (m7 7)) - (S_X10_down ((m7 2) - (m7 3)) 5)) 10 (by decide)) mf_X10_down ms_X10_down lk_X10_103 rfl ⟨by decide, by decide⟩ ⟨Nat.le_refl _, Nat.le_refl _⟩ rfl (Nat.le_of_ble_eq_true rfl) dX10_tick_81 (st2 := [.int (S_X10_down ((8 * (m7 7)) - (S_X10_down ((m7 2) - (m7 3)) 5)) 10), .int (m7 2), .int 2, .ref (gA G 37 0)]) rfl ?_
  refine q_iadd X dX10_tick_84 ?_
  obtain ⟨r10, e_r10⟩ : ∃ z : Nat → Int32, z = va_up m7 2 ((m7 2) + (S_X10_down ((8 * (m7 7)) - (S_X10_down ((m7 2) - (m7 3)) 5)) 10)) := ⟨_, rfl⟩
  have i_r10 : MI r10 := by rw [e_r10]; exact MI_up (by decide) (by decide) i_m7
  refine q_iast (h2 := va_up h 37 r10) X (ac_10_0 hT_37) (by rw [hT_37]; exact vin_lit (by decide)) dX10_tick_85 (va_up_self _ _ _) (by rw [show 0 + 1 * Int32.toNatClampNeg 2 = 2 from rfl, e_r10, va_up_up]) ?_
  refine q_iload_n X 1 dX10_tick_86 rfl ?_
  suffices hJ23 : ∀ (m12 : Nat → Int32), m12 = (if (S_X10_isRoasting σ) = 0 then (if (r10 1) = 2 then (va_up r10 16 ((r10 16) - (S_X10_down (((r10 16) - (r10 3)) * (r10 8)) 100))) else (r10)) else (let r15 : Nat → Int32 := va_up r10 2 ((r10 2) - (S_X10_down (((m7 2) - (r10 16)) * (r10 17)) 20000)); let r16 : Nat → Int32 := va_up r15 16 ((r15 16) + (S_X10_down ((r15 2) - (r15 16)) 20)); let m18 : Int32 := if (r16 16) ≤ (r16 25) then (r16 25) else (r16 16); let r20 : Nat → Int32 := va_up r16 25 m18; let r21 : Nat → Int32 := S_X10_crack r20; va_up r21 19 ((r21 19) + (S_X10_rateAt r21 (r21 16))))) → MI m12 → VV G (AA G) p l e { frames := 3, cells := 0, slots := 0, locals := 70 } s m ([.ref (gA G 36 0)] : List Value).toArray below meth c 0 0 (MQ below (QC G (va_up h 37 Z) none) ([.ref (gA G 36 0)] : List Value).toArray s 0 0 (AA G)) 3 (va_up h 37 m12) 267 [(2, .int (m7 2)), (1, .int (S_X10_isRoasting σ)), (0, .ref (gA G 36 0))] [] by
    refine q_if_eq (tgt := 220) X dX10_tick_87 (by decide) (fun c11 => ?_) (fun c11 => ?_)
    · skip
      refine q_aload_n X 2 dX10_tick_220 rfl ?_
      refine q_get (fk := 1) (v := .ref (gA G 37 0)) X cf_X10 (ac_9_0 hT_36) (by decide) fl_X10_7 rfl rfl dX10_tick_221 rfl ?_
      refine q_iconst (v := 1) X dX10_tick_224 (by decide) ?_
      refine q_iald (x := r10 1) X (ac_10_0 hT_37) (by rw [hT_37]; exact vin_lit (by decide)) dX10_tick_225 (va_up_self _ _ _) rfl ?_
      refine q_iconst (v := 2) X dX10_tick_226 (by decide) ?_
      refine q_icmp_ne (tgt := 267) X dX10_tick_227 (by decide) (fun c13 => ?_) (fun c13 => ?_)
      · skip
        refine q_sub (lv2 := [(2, .int (m7 2)), (1, .int (S_X10_isRoasting σ)), (0, .ref (gA G 36 0))]) [0, 1, 2] rfl ?_
        exact hJ23 r10 (by exact ((if_pos c11).trans ((if_neg c13).trans rfl)).symm) i_r10
      · skip
        refine q_aload_n X 2 dX10_tick_230 rfl ?_
        refine q_get (fk := 1) (v := .ref (gA G 37 0)) X cf_X10 (ac_9_0 hT_36) (by decide) fl_X10_7 rfl rfl dX10_tick_231 rfl ?_
        refine q_bipush (v := 16) X dX10_tick_234 (by decide) ?_
        refine q_dup2 X dX10_tick_236 rfl rfl ?_
        refine q_iald (x := r10 16) X (ac_10_0 hT_37) (by rw [hT_37]; exact vin_lit (by decide)) dX10_tick_237 (va_up_self _ _ _) rfl ?_
        refine q_aload_n X 2 dX10_tick_238 rfl ?_
        refine q_get (fk := 1) (v := .ref (gA G 37 0)) X cf_X10 (ac_9_0 hT_36) (by decide) fl_X10_7 rfl rfl dX10_tick_239 rfl ?_
        refine q_bipush (v := 16) X dX10_tick_242 (by decide) ?_
        refine q_iald (x := r10 16) X (ac_10_0 hT_37) (by rw [hT_37]; exact vin_lit (by decide)) dX10_tick_244 (va_up_self _ _ _) rfl ?_
        refine q_aload_n X 2 dX10_tick_245 rfl ?_
        refine q_get (fk := 1) (v := .ref (gA G 37 0)) X cf_X10 (ac_9_0 hT_36) (by decide) fl_X10_7 rfl rfl dX10_tick_246 rfl ?_
        refine q_iconst (v := 3) X dX10_tick_249 (by decide) ?_
        refine q_iald (x := r10 3) X (ac_10_0 hT_37) (by rw [hT_37]; exact vin_lit (by decide)) dX10_tick_250 (va_up_self _ _ _) rfl ?_
        refine q_isub X dX10_tick_251 ?_
        refine q_aload_n X 2 dX10_tick_252 rfl ?_
        refine q_get (fk := 1) (v := .ref (gA G 37 0)) X cf_X10 (ac_9_0 hT_36) (by decide) fl_X10_7 rfl rfl dX10_tick_253 rfl ?_
        refine q_bipush (v := 8) X dX10_tick_256 (by decide) ?_
        refine q_iald (x := r10 8) X (ac_10_0 hT_37) (by rw [hT_37]; exact vin_lit (by decide)) dX10_tick_258 (va_up_self _ _ _) rfl ?_
        refine q_imul X dX10_tick_259 ?_
        refine q_bipush (v := 100) X dX10_tick_260 (by decide) ?_
        refine q_callS (h1 := _) (rest := [.int (r10 16), .int 16, .ref (gA G 37 0)]) (As := [.int (((r10 16) - (r10 3)) * (r10 8)), .int 100]) X (c_X10_down (l := l) hG   (((r10 16) - (r10 3)) * (r10 8)) 100 (by decide)) mf_X10_down ms_X10_down lk_X10_103 rfl ⟨by decide, by decide⟩ ⟨Nat.le_refl _, Nat.le_refl _⟩ rfl (Nat.le_of_ble_eq_true rfl) dX10_tick_262 (st2 := [.int (S_X10_down (((r10 16) - (r10 3)) * (r10 8)) 100), .int (r10 16), .int 16, .ref (gA G 37 0)]) rfl ?_
        refine q_isub X dX10_tick_265 ?_
        obtain ⟨r14, e_r14⟩ : ∃ z : Nat → Int32, z = va_up r10 16 ((r10 16) - (S_X10_down (((r10 16) - (r10 3)) * (r10 8)) 100)) := ⟨_, rfl⟩
        have i_r14 : MI r14 := by rw [e_r14]; exact MI_up (by decide) (by decide) i_r10
        refine q_iast (h2 := va_up h 37 r14) X (ac_10_0 hT_37) (by rw [hT_37]; exact vin_lit (by decide)) dX10_tick_266 (va_up_self _ _ _) (by rw [show 0 + 1 * Int32.toNatClampNeg 16 = 16 from rfl, e_r14, va_up_up]) ?_
        refine q_sub (lv2 := [(2, .int (m7 2)), (1, .int (S_X10_isRoasting σ)), (0, .ref (gA G 36 0))]) [0, 1, 2] rfl ?_
        exact hJ23 r14 (by subst e_r14; exact ((if_pos c11).trans ((if_pos c13).trans rfl)).symm) i_r14
    · skip
      refine q_aload_n X 2 dX10_tick_90 rfl ?_
      refine q_get (fk := 1) (v := .ref (gA G 37 0)) X cf_X10 (ac_9_0 hT_36) (by decide) fl_X10_7 rfl rfl dX10_tick_91 rfl ?_
      refine q_iconst (v := 2) X dX10_tick_94 (by decide) ?_
      refine q_dup2 X dX10_tick_95 rfl rfl ?_
      refine q_iald (x := r10 2) X (ac_10_0 hT_37) (by rw [hT_37]; exact vin_lit (by decide)) dX10_tick_96 (va_up_self _ _ _) rfl ?_
      refine q_iload_n X 0 dX10_tick_97 rfl ?_
      refine q_aload_n X 2 dX10_tick_98 rfl ?_
      refine q_get (fk := 1) (v := .ref (gA G 37 0)) X cf_X10 (ac_9_0 hT_36) (by decide) fl_X10_7 rfl rfl dX10_tick_99 rfl ?_
      refine q_bipush (v := 16) X dX10_tick_102 (by decide) ?_
      refine q_iald (x := r10 16) X (ac_10_0 hT_37) (by rw [hT_37]; exact vin_lit (by decide)) dX10_tick_104 (va_up_self _ _ _) rfl ?_
      refine q_isub X dX10_tick_105 ?_
      refine q_aload_n X 2 dX10_tick_106 rfl ?_
      refine q_get (fk := 1) (v := .ref (gA G 37 0)) X cf_X10 (ac_9_0 hT_36) (by decide) fl_X10_7 rfl rfl dX10_tick_107 rfl ?_
      refine q_bipush (v := 17) X dX10_tick_110 (by decide) ?_
      refine q_iald (x := r10 17) X (ac_10_0 hT_37) (by rw [hT_37]; exact vin_lit (by decide)) dX10_tick_112 (va_up_self _ _ _) rfl ?_
      refine q_imul X dX10_tick_113 ?_
      refine q_sipush (v := 20000) X dX10_tick_114 (by decide) ?_
      refine q_callS (h1 := _) (rest := [.int (r10 2), .int 2, .ref (gA G 37 0)]) (As := [.int (((m7 2) - (r10 16)) * (r10 17)), .int 20000]) X (c_X10_down (l := l) hG   (((m7 2) - (r10 16)) * (r10 17)) 20000 (by decide)) mf_X10_down ms_X10_down lk_X10_103 rfl ⟨by decide, by decide⟩ ⟨Nat.le_refl _, Nat.le_refl _⟩ rfl (Nat.le_of_ble_eq_true rfl) dX10_tick_117 (st2 := [.int (S_X10_down (((m7 2) - (r10 16)) * (r10 17)) 20000), .int (r10 2), .int 2, .ref (gA G 37 0)]) rfl ?_
      refine q_isub X dX10_tick_120 ?_
      obtain ⟨r15, e_r15⟩ : ∃ z : Nat → Int32, z = va_up r10 2 ((r10 2) - (S_X10_down (((m7 2) - (r10 16)) * (r10 17)) 20000)) := ⟨_, rfl⟩
      have i_r15 : MI r15 := by rw [e_r15]; exact MI_up (by decide) (by decide) i_r10
      refine q_iast (h2 := va_up h 37 r15) X (ac_10_0 hT_37) (by rw [hT_37]; exact vin_lit (by decide)) dX10_tick_121 (va_up_self _ _ _) (by rw [show 0 + 1 * Int32.toNatClampNeg 2 = 2 from rfl, e_r15, va_up_up]) ?_
      refine q_aload_n X 2 dX10_tick_122 rfl ?_
      refine q_get (fk := 1) (v := .ref (gA G 37 0)) X cf_X10 (ac_9_0 hT_36) (by decide) fl_X10_7 rfl rfl dX10_tick_123 rfl ?_
      refine q_bipush (v := 16) X dX10_tick_126 (by decide) ?_
      refine q_dup2 X dX10_tick_128 rfl rfl ?_
      refine q_iald (x := r15 16) X (ac_10_0 hT_37) (by rw [hT_37]; exact vin_lit (by decide)) dX10_tick_129 (va_up_self _ _ _) rfl ?_
      refine q_aload_n X 2 dX10_tick_130 rfl ?_
      refine q_get (fk := 1) (v := .ref (gA G 37 0)) X cf_X10 (ac_9_0 hT_36) (by decide) fl_X10_7 rfl rfl dX10_tick_131 rfl ?_
      refine q_iconst (v := 2) X dX10_tick_134 (by decide) ?_
      refine q_iald (x := r15 2) X (ac_10_0 hT_37) (by rw [hT_37]; exact vin_lit (by decide)) dX10_tick_135 (va_up_self _ _ _) rfl ?_
      refine q_aload_n X 2 dX10_tick_136 rfl ?_
      refine q_get (fk := 1) (v := .ref (gA G 37 0)) X cf_X10 (ac_9_0 hT_36) (by decide) fl_X10_7 rfl rfl dX10_tick_137 rfl ?_
      refine q_bipush (v := 16) X dX10_tick_140 (by decide) ?_
      refine q_iald (x := r15 16) X (ac_10_0 hT_37) (by rw [hT_37]; exact vin_lit (by decide)) dX10_tick_142 (va_up_self _ _ _) rfl ?_
      refine q_isub X dX10_tick_143 ?_
      refine q_bipush (v := 20) X dX10_tick_144 (by decide) ?_
      refine q_callS (h1 := _) (rest := [.int (r15 16), .int 16, .ref (gA G 37 0)]) (As := [.int ((r15 2) - (r15 16)), .int 20]) X (c_X10_down (l := l) hG   ((r15 2) - (r15 16)) 20 (by decide)) mf_X10_down ms_X10_down lk_X10_103 rfl ⟨by decide, by decide⟩ ⟨Nat.le_refl _, Nat.le_refl _⟩ rfl (Nat.le_of_ble_eq_true rfl) dX10_tick_146 (st2 := [.int (S_X10_down ((r15 2) - (r15 16)) 20), .int (r15 16), .int 16, .ref (gA G 37 0)]) rfl ?_
      refine q_iadd X dX10_tick_149 ?_
      obtain ⟨r16, e_r16⟩ : ∃ z : Nat → Int32, z = va_up r15 16 ((r15 16) + (S_X10_down ((r15 2) - (r15 16)) 20)) := ⟨_, rfl⟩
      have i_r16 : MI r16 := by rw [e_r16]; exact MI_up (by decide) (by decide) i_r15
      refine q_iast (h2 := va_up h 37 r16) X (ac_10_0 hT_37) (by rw [hT_37]; exact vin_lit (by decide)) dX10_tick_150 (va_up_self _ _ _) (by rw [show 0 + 1 * Int32.toNatClampNeg 16 = 16 from rfl, e_r16, va_up_up]) ?_
      refine q_aload_n X 2 dX10_tick_151 rfl ?_
      refine q_get (fk := 1) (v := .ref (gA G 37 0)) X cf_X10 (ac_9_0 hT_36) (by decide) fl_X10_7 rfl rfl dX10_tick_152 rfl ?_
      refine q_bipush (v := 25) X dX10_tick_155 (by decide) ?_
      refine q_aload_n X 2 dX10_tick_157 rfl ?_
      refine q_get (fk := 1) (v := .ref (gA G 37 0)) X cf_X10 (ac_9_0 hT_36) (by decide) fl_X10_7 rfl rfl dX10_tick_158 rfl ?_
      refine q_bipush (v := 16) X dX10_tick_161 (by decide) ?_
      refine q_iald (x := r16 16) X (ac_10_0 hT_37) (by rw [hT_37]; exact vin_lit (by decide)) dX10_tick_163 (va_up_self _ _ _) rfl ?_
      refine q_aload_n X 2 dX10_tick_164 rfl ?_
      refine q_get (fk := 1) (v := .ref (gA G 37 0)) X cf_X10 (ac_9_0 hT_36) (by decide) fl_X10_7 rfl rfl dX10_tick_165 rfl ?_
      refine q_bipush (v := 25) X dX10_tick_168 (by decide) ?_
      refine q_iald (x := r16 25) X (ac_10_0 hT_37) (by rw [hT_37]; exact vin_lit (by decide)) dX10_tick_170 (va_up_self _ _ _) rfl ?_
      suffices hJ19 : ∀ (m18 : Int32), m18 = (if (r16 16) ≤ (r16 25) then (r16 25) else (r16 16)) → VV G (AA G) p l e { frames := 3, cells := 0, slots := 0, locals := 70 } s m ([.ref (gA G 36 0)] : List Value).toArray below meth c 0 0 (MQ below (QC G (va_up h 37 Z) none) ([.ref (gA G 36 0)] : List Value).toArray s 0 0 (AA G)) 3 (va_up h 37 r16) 191 [(2, .int (m7 2)), (1, .int (S_X10_isRoasting σ)), (0, .ref (gA G 36 0))] [.int m18, .int 25, .ref (gA G 37 0)] by
        refine q_icmp_le (tgt := 184) X dX10_tick_171 (by decide) (fun c17 => ?_) (fun c17 => ?_)
        · skip
          refine q_aload_n X 2 dX10_tick_184 rfl ?_
          refine q_get (fk := 1) (v := .ref (gA G 37 0)) X cf_X10 (ac_9_0 hT_36) (by decide) fl_X10_7 rfl rfl dX10_tick_185 rfl ?_
          refine q_bipush (v := 25) X dX10_tick_188 (by decide) ?_
          refine q_iald (x := r16 25) X (ac_10_0 hT_37) (by rw [hT_37]; exact vin_lit (by decide)) dX10_tick_190 (va_up_self _ _ _) rfl ?_
          refine q_sub (lv2 := [(2, .int (m7 2)), (1, .int (S_X10_isRoasting σ)), (0, .ref (gA G 36 0))]) [0, 1, 2] rfl ?_
          exact hJ19 (r16 25) (by exact ((if_pos c17).trans rfl).symm)
        · skip
          refine q_aload_n X 2 dX10_tick_174 rfl ?_
          refine q_get (fk := 1) (v := .ref (gA G 37 0)) X cf_X10 (ac_9_0 hT_36) (by decide) fl_X10_7 rfl rfl dX10_tick_175 rfl ?_
          refine q_bipush (v := 16) X dX10_tick_178 (by decide) ?_
          refine q_iald (x := r16 16) X (ac_10_0 hT_37) (by rw [hT_37]; exact vin_lit (by decide)) dX10_tick_180 (va_up_self _ _ _) rfl ?_
          refine q_goto (tgt := 191) X dX10_tick_181 (by decide) ?_
          refine q_sub (lv2 := [(2, .int (m7 2)), (1, .int (S_X10_isRoasting σ)), (0, .ref (gA G 36 0))]) [0, 1, 2] rfl ?_
          exact hJ19 (r16 16) (by exact ((if_neg c17).trans rfl).symm)
      intro m18 e_m18
      obtain ⟨r20, e_r20⟩ : ∃ z : Nat → Int32, z = va_up r16 25 m18 := ⟨_, rfl⟩
      have i_r20 : MI r20 := by rw [e_r20]; exact MI_up (by decide) (by decide) i_r16
      refine q_iast (h2 := va_up h 37 r20) X (ac_10_0 hT_37) (by rw [hT_37]; exact vin_lit (by decide)) dX10_tick_191 (va_up_self _ _ _) (by rw [show 0 + 1 * Int32.toNatClampNeg 25 = 25 from rfl, e_r20, va_up_up]) ?_
      refine q_aload_n X 2 dX10_tick_192 rfl ?_
      obtain ⟨r21, e_r21⟩ : ∃ z : Nat → Int32, z = S_X10_crack r20 := ⟨_, rfl⟩
      have i_r21 : MI r21 := by rw [e_r21]; exact MI_X10_crack i_r20
      refine q_callV (h1 := _) (rest := []) (As := []) X (c_X10_crack (l := l) hG (σ := r20)   hM (va_up_self _ _ _)) mf_X10_crack mv_X10_crack cf_X10 rfl (ac_9_0 hT_36) lk_X10_113 rfl ⟨by decide, by decide⟩ ⟨Nat.le_refl _, Nat.le_refl _⟩ rfl (Nat.le_of_ble_eq_true rfl) dX10_tick_193 (st2 := []) rfl ?_
      refine q_eq (h2 := va_up h 37 r21) (by rw [e_r21]; exact va_up_up _ _ _ _) rfl ?_
      refine q_aload_n X 2 dX10_tick_196 rfl ?_
      refine q_get (fk := 1) (v := .ref (gA G 37 0)) X cf_X10 (ac_9_0 hT_36) (by decide) fl_X10_7 rfl rfl dX10_tick_197 rfl ?_
      refine q_bipush (v := 19) X dX10_tick_200 (by decide) ?_
      refine q_dup2 X dX10_tick_202 rfl rfl ?_
      refine q_iald (x := r21 19) X (ac_10_0 hT_37) (by rw [hT_37]; exact vin_lit (by decide)) dX10_tick_203 (va_up_self _ _ _) rfl ?_
      refine q_aload_n X 2 dX10_tick_204 rfl ?_
      refine q_aload_n X 2 dX10_tick_205 rfl ?_
      refine q_get (fk := 1) (v := .ref (gA G 37 0)) X cf_X10 (ac_9_0 hT_36) (by decide) fl_X10_7 rfl rfl dX10_tick_206 rfl ?_
      refine q_bipush (v := 16) X dX10_tick_209 (by decide) ?_
      refine q_iald (x := r21 16) X (ac_10_0 hT_37) (by rw [hT_37]; exact vin_lit (by decide)) dX10_tick_211 (va_up_self _ _ _) rfl ?_
      refine q_callV (h1 := _) (rest := [.int (r21 19), .int 19, .ref (gA G 37 0)]) (As := [.int (r21 16)]) X (c_X10_rateAt (l := l) hG (σ := r21)  (r21 16) hM (va_up_self _ _ _) i_r21) mf_X10_rateAt mv_X10_rateAt cf_X10 rfl (ac_9_0 hT_36) lk_X10_116 rfl ⟨by decide, by decide⟩ ⟨Nat.le_refl _, Nat.le_refl _⟩ rfl (Nat.le_of_ble_eq_true rfl) dX10_tick_212 (st2 := [.int (S_X10_rateAt r21 (r21 16)), .int (r21 19), .int 19, .ref (gA G 37 0)]) rfl ?_
      refine q_iadd X dX10_tick_215 ?_
      obtain ⟨r22, e_r22⟩ : ∃ z : Nat → Int32, z = va_up r21 19 ((r21 19) + (S_X10_rateAt r21 (r21 16))) := ⟨_, rfl⟩
      have i_r22 : MI r22 := by rw [e_r22]; exact MI_up (by decide) (by decide) i_r21
      refine q_iast (h2 := va_up h 37 r22) X (ac_10_0 hT_37) (by rw [hT_37]; exact vin_lit (by decide)) dX10_tick_216 (va_up_self _ _ _) (by rw [show 0 + 1 * Int32.toNatClampNeg 19 = 19 from rfl, e_r22, va_up_up]) ?_
      refine q_goto (tgt := 267) X dX10_tick_217 (by decide) ?_
      refine q_sub (lv2 := [(2, .int (m7 2)), (1, .int (S_X10_isRoasting σ)), (0, .ref (gA G 36 0))]) [0, 1, 2] rfl ?_
      exact hJ23 r22 (by subst e_r22; subst e_r21; subst e_r20; subst e_m18; subst e_r16; subst e_r15; exact ((if_neg c11).trans rfl).symm) i_r22
  intro m12 e_m12 i_m12
  refine q_aload_n X 2 dX10_tick_267 rfl ?_
  refine q_get (fk := 1) (v := .ref (gA G 37 0)) X cf_X10 (ac_9_0 hT_36) (by decide) fl_X10_7 rfl rfl dX10_tick_268 rfl ?_
  refine q_iconst (v := 4) X dX10_tick_271 (by decide) ?_
  refine q_dup2 X dX10_tick_272 rfl rfl ?_
  refine q_iald (x := m12 4) X (ac_10_0 hT_37) (by rw [hT_37]; exact vin_lit (by decide)) dX10_tick_273 (va_up_self _ _ _) rfl ?_
  refine q_iload_n X 1 dX10_tick_274 rfl ?_
  suffices hJ26 : ∀ (m25 : Int32), m25 = (if (S_X10_isRoasting σ) = 0 then (m12 2) else (m12 16)) → VV G (AA G) p l e { frames := 3, cells := 0, slots := 0, locals := 70 } s m ([.ref (gA G 36 0)] : List Value).toArray below meth c 0 0 (MQ below (QC G (va_up h 37 Z) none) ([.ref (gA G 36 0)] : List Value).toArray s 0 0 (AA G)) 3 (va_up h 37 m12) 294 [(2, .int (m7 2)), (1, .int (S_X10_isRoasting σ)), (0, .ref (gA G 36 0))] [.int m25, .int (m12 4), .int 4, .ref (gA G 37 0)] by
    refine q_if_eq (tgt := 288) X dX10_tick_275 (by decide) (fun c24 => ?_) (fun c24 => ?_)
    · skip
      refine q_aload_n X 2 dX10_tick_288 rfl ?_
      refine q_get (fk := 1) (v := .ref (gA G 37 0)) X cf_X10 (ac_9_0 hT_36) (by decide) fl_X10_7 rfl rfl dX10_tick_289 rfl ?_
      refine q_iconst (v := 2) X dX10_tick_292 (by decide) ?_
      refine q_iald (x := m12 2) X (ac_10_0 hT_37) (by rw [hT_37]; exact vin_lit (by decide)) dX10_tick_293 (va_up_self _ _ _) rfl ?_
      refine q_sub (lv2 := [(2, .int (m7 2)), (1, .int (S_X10_isRoasting σ)), (0, .ref (gA G 36 0))]) [0, 1, 2] rfl ?_
      exact hJ26 (m12 2) (by exact ((if_pos c24).trans rfl).symm)
    · skip
      refine q_aload_n X 2 dX10_tick_278 rfl ?_
      refine q_get (fk := 1) (v := .ref (gA G 37 0)) X cf_X10 (ac_9_0 hT_36) (by decide) fl_X10_7 rfl rfl dX10_tick_279 rfl ?_
      refine q_bipush (v := 16) X dX10_tick_282 (by decide) ?_
      refine q_iald (x := m12 16) X (ac_10_0 hT_37) (by rw [hT_37]; exact vin_lit (by decide)) dX10_tick_284 (va_up_self _ _ _) rfl ?_
      refine q_goto (tgt := 294) X dX10_tick_285 (by decide) ?_
      refine q_sub (lv2 := [(2, .int (m7 2)), (1, .int (S_X10_isRoasting σ)), (0, .ref (gA G 36 0))]) [0, 1, 2] rfl ?_
      exact hJ26 (m12 16) (by exact ((if_neg c24).trans rfl).symm)
  intro m25 e_m25
  refine q_aload_n X 2 dX10_tick_294 rfl ?_
  refine q_get (fk := 1) (v := .ref (gA G 37 0)) X cf_X10 (ac_9_0 hT_36) (by decide) fl_X10_7 rfl rfl dX10_tick_295 rfl ?_
  refine q_iconst (v := 4) X dX10_tick_298 (by decide) ?_
  refine q_iald (x := m12 4) X (ac_10_0 hT_37) (by rw [hT_37]; exact vin_lit (by decide)) dX10_tick_299 (va_up_self _ _ _) rfl ?_
  refine q_isub X dX10_tick_300 ?_
  refine q_aload_n X 2 dX10_tick_301 rfl ?_
  refine q_get (fk := 1) (v := .ref (gA G 37 0)) X cf_X10 (ac_9_0 hT_36) (by decide) fl_X10_7 rfl rfl dX10_tick_302 rfl ?_
  refine q_iconst (v := 5) X dX10_tick_305 (by decide) ?_
  refine q_iald (x := m12 5) X (ac_10_0 hT_37) (by rw [hT_37]; exact vin_lit (by decide)) dX10_tick_306 (va_up_self _ _ _) rfl ?_
  refine q_callS (h1 := _) (rest := [.int (m12 4), .int 4, .ref (gA G 37 0)]) (As := [.int (m25 - (m12 4)), .int (m12 5)]) X (c_X10_down (l := l) hG   (m25 - (m12 4)) (m12 5) i_m12.lag) mf_X10_down ms_X10_down lk_X10_103 rfl ⟨by decide, by decide⟩ ⟨Nat.le_refl _, Nat.le_refl _⟩ rfl (Nat.le_of_ble_eq_true rfl) dX10_tick_307 (st2 := [.int (S_X10_down (m25 - (m12 4)) (m12 5)), .int (m12 4), .int 4, .ref (gA G 37 0)]) rfl ?_
  refine q_iadd X dX10_tick_310 ?_
  obtain ⟨r27, e_r27⟩ : ∃ z : Nat → Int32, z = va_up m12 4 ((m12 4) + (S_X10_down (m25 - (m12 4)) (m12 5))) := ⟨_, rfl⟩
  have i_r27 : MI r27 := by rw [e_r27]; exact MI_up (by decide) (by decide) i_m12
  refine q_iast (h2 := va_up h 37 r27) X (ac_10_0 hT_37) (by rw [hT_37]; exact vin_lit (by decide)) dX10_tick_311 (va_up_self _ _ _) (by rw [show 0 + 1 * Int32.toNatClampNeg 4 = 4 from rfl, e_r27, va_up_up]) ?_
  refine q_iload_n X 1 dX10_tick_312 rfl ?_
  suffices hJ31 : ∀ (m29 : Nat → Int32), m29 = (if (S_X10_isRoasting σ) = 0 then (r27) else (S_X10_detect r27)) → MI m29 → VV G (AA G) p l e { frames := 3, cells := 0, slots := 0, locals := 70 } s m ([.ref (gA G 36 0)] : List Value).toArray below meth c 0 0 (MQ below (QC G (va_up h 37 Z) none) ([.ref (gA G 36 0)] : List Value).toArray s 0 0 (AA G)) 3 (va_up h 37 m29) 320 [(2, .int (m7 2)), (1, .int (S_X10_isRoasting σ)), (0, .ref (gA G 36 0))] [] by
    refine q_if_eq (tgt := 320) X dX10_tick_313 (by decide) (fun c28 => ?_) (fun c28 => ?_)
    · skip
      refine q_sub (lv2 := [(2, .int (m7 2)), (1, .int (S_X10_isRoasting σ)), (0, .ref (gA G 36 0))]) [0, 1, 2] rfl ?_
      exact hJ31 r27 (by exact ((if_pos c28).trans rfl).symm) i_r27
    · skip
      refine q_aload_n X 2 dX10_tick_316 rfl ?_
      obtain ⟨r30, e_r30⟩ : ∃ z : Nat → Int32, z = S_X10_detect r27 := ⟨_, rfl⟩
      have i_r30 : MI r30 := by rw [e_r30]; exact MI_X10_detect i_r27
      refine q_callV (h1 := _) (rest := []) (As := []) X (c_X10_detect (l := l) hG (σ := r27)   hM (va_up_self _ _ _)) mf_X10_detect mv_X10_detect cf_X10 rfl (ac_9_0 hT_36) lk_X10_119 rfl ⟨by decide, by decide⟩ ⟨Nat.le_refl _, Nat.le_refl _⟩ rfl (Nat.le_of_ble_eq_true rfl) dX10_tick_317 (st2 := []) rfl ?_
      refine q_eq (h2 := va_up h 37 r30) (by rw [e_r30]; exact va_up_up _ _ _ _) rfl ?_
      refine q_sub (lv2 := [(2, .int (m7 2)), (1, .int (S_X10_isRoasting σ)), (0, .ref (gA G 36 0))]) [0, 1, 2] rfl ?_
      exact hJ31 r30 (by subst e_r30; exact ((if_neg c28).trans rfl).symm) i_r30
  intro m29 e_m29 i_m29
  have E : Z = m29 := by subst e_m29; subst e_r27; subst e_m25; subst e_m12; subst e_r10; subst e_m7; subst e_r5; subst e_m3; subst e_r1; exact hZ.symm.trans (rfl)
  exact q_vret X hret dX10_tick_320 rfl (by rw [E])
