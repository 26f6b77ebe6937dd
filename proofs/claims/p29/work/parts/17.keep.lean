def S_X9_setAmbient (h : Hp) (am : Int32) : Int32 × Hp := if (S_X9_inRange am 0 400) = 0 then (((-100001), h)) else (let h2 : Hp := S_X1_remember h; let r3 : Nat → Int32 := va_up (h2 2) 3 am; ((h2 2) 3, va_up h2 2 r3))
set_option maxRecDepth 100000 in
set_option maxHeartbeats 4000000 in
theorem c_X9_setAmbient {G : Geo} {l : Launch} (hG : GOK G) {h : Hp} (am : Int32) (hK : KT G) : CM G l yX9_setAmbient cX9_setAmbient 3 (some .int) 6 166 [.ref (gA G 0 0), .int am] h ((S_X9_setAmbient h am).2) (some (.int ((S_X9_setAmbient h am).1))) := by
  obtain ⟨Z, hZ⟩ : ∃ Z, S_X9_setAmbient h am = Z := ⟨_, rfl⟩
  rw [hZ]
  refine q_enter hG mf_X9_setAmbient (Nat.le_of_ble_eq_true rfl) ?_
  intro p e s m below meth c X hret
  have hT_0 : gT G 0 = 0 := hK 0 (by decide)
  have hT_1 : gT G 1 = 1 := hK 1 (by decide)
  have hT_2 : gT G 2 = 2 := hK 2 (by decide)
  have hT_3 : gT G 3 = 3 := hK 3 (by decide)
  have hT_4 : gT G 4 = 3 := hK 4 (by decide)
  have hT_5 : gT G 5 = 5 := hK 5 (by decide)
  have hT_6 : gT G 6 = 2 := hK 6 (by decide)
  have hT_7 : gT G 7 = 6 := hK 7 (by decide)
  have hT_8 : gT G 8 = 7 := hK 8 (by decide)
  have hT_9 : gT G 9 = 3 := hK 9 (by decide)
  have hT_10 : gT G 10 = 8 := hK 10 (by decide)
  refine q_lv (lv2 := [(0, .ref (gA G 0 0)), (1, .int am)]) rfl ?_
  refine q_iload_n X 1 dX9_setAmbient_0 rfl ?_
  refine q_iconst (v := 0) X dX9_setAmbient_1 (by decide) ?_
  refine q_sipush (v := 400) X dX9_setAmbient_2 (by decide) ?_
  refine q_callS (h1 := _) (rest := []) (As := [.int am, .int 0, .int 400]) X (c_X9_inRange (l := l) hG   am 0 400 ) mf_X9_inRange ms_X9_inRange lk_X9_73 rfl ⟨by decide, by decide⟩ ⟨Nat.le_refl _, Nat.le_refl _⟩ rfl (Nat.le_of_ble_eq_true rfl) dX9_setAmbient_5 (st2 := [.int (S_X9_inRange am 0 400)]) rfl ?_
  refine q_if_ne (tgt := 14) X dX9_setAmbient_8 (by decide) (fun c1 => ?_) (fun c1 => ?_)
  · skip
    refine q_aload_n X 0 dX9_setAmbient_14 rfl ?_
    refine q_get (fk := 6) (v := .ref (gA G 10 0)) X cf_X9 (ac_0_0 hT_0) (by decide) fl_X9_45 rfl rfl dX9_setAmbient_15 rfl ?_
    refine q_aload_n X 0 dX9_setAmbient_18 rfl ?_
    refine q_get (fk := 0) (v := .ref (gA G 1 0)) X cf_X9 (ac_0_0 hT_0) (by decide) fl_X9_10 rfl rfl dX9_setAmbient_19 rfl ?_
    obtain ⟨h2, e_h2⟩ : ∃ z : Hp, z = S_X1_remember h := ⟨_, rfl⟩
    refine q_callV (h1 := _) (rest := []) (As := [.ref (gA G 1 0)]) X (c_X1_remember (l := l) hG    hK) mf_X1_remember mv_X1_remember cf_X1 rfl (ac_8_0 hT_10) lk_X9_78 rfl ⟨by decide, by decide⟩ ⟨Nat.le_refl _, Nat.le_refl _⟩ rfl (Nat.le_of_ble_eq_true rfl) dX9_setAmbient_22 (st2 := []) rfl ?_
    refine q_eq (h2 := h2) (by rw [e_h2]) rfl ?_
    refine q_aload_n X 0 dX9_setAmbient_25 rfl ?_
    refine q_get (fk := 2) (v := .ref (gA G 2 1)) X cf_X9 (ac_0_0 hT_0) (by decide) fl_X9_27 rfl rfl dX9_setAmbient_26 rfl ?_
    refine q_geti (fk := 0) (x := (h2 2) 3) X cf_X5 (ac_2_1 hT_2) (by decide) fl_X9_82 rfl rfl dX9_setAmbient_29 (rfl) rfl ?_
    refine q_istore_n (lv' := [(2, .int ((h2 2) 3)), (0, .ref (gA G 0 0)), (1, .int am)]) X dX9_setAmbient_32 (by decide) rfl ?_
    refine q_aload_n X 1 dX9_setAmbient_33 rfl ?_
    refine q_get (fk := 2) (v := .ref (gA G 2 1)) X cf_X9 (ac_0_0 hT_0) (by decide) fl_X9_27 rfl rfl dX9_setAmbient_34 rfl ?_
    refine q_iload_n X 2 dX9_setAmbient_37 rfl ?_
    obtain ⟨r3, e_r3⟩ : ∃ z : Nat → Int32, z = va_up (h2 2) 3 am := ⟨_, rfl⟩
    refine q_put (fk := 0) (h2 := va_up h2 2 r3) X cf_X5 (ac_2_1 hT_2) (by decide) fl_X9_82 rfl rfl (by rw [hT_2]; rfl) rfl rfl rfl dX9_setAmbient_38 (rfl) (by rw [e_r3]) ?_
    refine q_iload_n X 0 dX9_setAmbient_41 rfl ?_
    have E : Z = ((h2 2) 3, va_up h2 2 r3) := by subst e_r3; subst e_h2; exact hZ.symm.trans ((if_neg c1).trans rfl)
    exact q_iret X hret dX9_setAmbient_42 (by rw [E]) (by rw [E])
  · skip
    refine q_ldc X kc_X9_77 dX9_setAmbient_11 ?_
    have E : Z = ((-100001), h) := by exact hZ.symm.trans ((if_pos c1).trans rfl)
    exact q_iret X hret dX9_setAmbient_13 (by rw [E]) (by rw [E])
def S_X9_setPower (h : Hp) (po : Int32) : Int32 × Hp := if (S_X9_inRange po 0 100) = 0 then (((-100001), h)) else (let h2 : Hp := S_X1_remember h; let r3 : Nat → Int32 := va_up (h2 2) 7 po; ((h2 2) 7, va_up h2 2 r3))
set_option maxRecDepth 100000 in
set_option maxHeartbeats 4000000 in
theorem c_X9_setPower {G : Geo} {l : Launch} (hG : GOK G) {h : Hp} (po : Int32) (hK : KT G) : CM G l yX9_setPower cX9_setPower 3 (some .int) 6 166 [.ref (gA G 0 0), .int po] h ((S_X9_setPower h po).2) (some (.int ((S_X9_setPower h po).1))) := by
  obtain ⟨Z, hZ⟩ : ∃ Z, S_X9_setPower h po = Z := ⟨_, rfl⟩
  rw [hZ]
  refine q_enter hG mf_X9_setPower (Nat.le_of_ble_eq_true rfl) ?_
  intro p e s m below meth c X hret
  have hT_0 : gT G 0 = 0 := hK 0 (by decide)
  have hT_1 : gT G 1 = 1 := hK 1 (by decide)
  have hT_2 : gT G 2 = 2 := hK 2 (by decide)
  have hT_3 : gT G 3 = 3 := hK 3 (by decide)
  have hT_4 : gT G 4 = 3 := hK 4 (by decide)
  have hT_5 : gT G 5 = 5 := hK 5 (by decide)
  have hT_6 : gT G 6 = 2 := hK 6 (by decide)
  have hT_7 : gT G 7 = 6 := hK 7 (by decide)
  have hT_8 : gT G 8 = 7 := hK 8 (by decide)
  have hT_9 : gT G 9 = 3 := hK 9 (by decide)
  have hT_10 : gT G 10 = 8 := hK 10 (by decide)
  refine q_lv (lv2 := [(0, .ref (gA G 0 0)), (1, .int po)]) rfl ?_
  refine q_iload_n X 1 dX9_setPower_0 rfl ?_
  refine q_iconst (v := 0) X dX9_setPower_1 (by decide) ?_
  refine q_bipush (v := 100) X dX9_setPower_2 (by decide) ?_
  refine q_callS (h1 := _) (rest := []) (As := [.int po, .int 0, .int 100]) X (c_X9_inRange (l := l) hG   po 0 100 ) mf_X9_inRange ms_X9_inRange lk_X9_73 rfl ⟨by decide, by decide⟩ ⟨Nat.le_refl _, Nat.le_refl _⟩ rfl (Nat.le_of_ble_eq_true rfl) dX9_setPower_4 (st2 := [.int (S_X9_inRange po 0 100)]) rfl ?_
  refine q_if_ne (tgt := 13) X dX9_setPower_7 (by decide) (fun c1 => ?_) (fun c1 => ?_)
  · skip
    refine q_aload_n X 0 dX9_setPower_13 rfl ?_
    refine q_get (fk := 6) (v := .ref (gA G 10 0)) X cf_X9 (ac_0_0 hT_0) (by decide) fl_X9_45 rfl rfl dX9_setPower_14 rfl ?_
    refine q_aload_n X 0 dX9_setPower_17 rfl ?_
    refine q_get (fk := 0) (v := .ref (gA G 1 0)) X cf_X9 (ac_0_0 hT_0) (by decide) fl_X9_10 rfl rfl dX9_setPower_18 rfl ?_
    obtain ⟨h2, e_h2⟩ : ∃ z : Hp, z = S_X1_remember h := ⟨_, rfl⟩
    refine q_callV (h1 := _) (rest := []) (As := [.ref (gA G 1 0)]) X (c_X1_remember (l := l) hG    hK) mf_X1_remember mv_X1_remember cf_X1 rfl (ac_8_0 hT_10) lk_X9_78 rfl ⟨by decide, by decide⟩ ⟨Nat.le_refl _, Nat.le_refl _⟩ rfl (Nat.le_of_ble_eq_true rfl) dX9_setPower_21 (st2 := []) rfl ?_
    refine q_eq (h2 := h2) (by rw [e_h2]) rfl ?_
    refine q_aload_n X 0 dX9_setPower_24 rfl ?_
    refine q_get (fk := 1) (v := .ref (gA G 2 0)) X cf_X9 (ac_0_0 hT_0) (by decide) fl_X9_20 rfl rfl dX9_setPower_25 rfl ?_
    refine q_geti (fk := 6) (x := (h2 2) 7) X cf_X4 (ac_2_0 hT_2) (by decide) fl_X9_88 rfl rfl dX9_setPower_28 (rfl) rfl ?_
    refine q_istore_n (lv' := [(2, .int ((h2 2) 7)), (0, .ref (gA G 0 0)), (1, .int po)]) X dX9_setPower_31 (by decide) rfl ?_
    refine q_aload_n X 1 dX9_setPower_32 rfl ?_
    refine q_get (fk := 1) (v := .ref (gA G 2 0)) X cf_X9 (ac_0_0 hT_0) (by decide) fl_X9_20 rfl rfl dX9_setPower_33 rfl ?_
    refine q_iload_n X 2 dX9_setPower_36 rfl ?_
    obtain ⟨r3, e_r3⟩ : ∃ z : Nat → Int32, z = va_up (h2 2) 7 po := ⟨_, rfl⟩
    refine q_put (fk := 6) (h2 := va_up h2 2 r3) X cf_X4 (ac_2_0 hT_2) (by decide) fl_X9_88 rfl rfl (by rw [hT_2]; rfl) rfl rfl rfl dX9_setPower_37 (rfl) (by rw [e_r3]) ?_
    refine q_iload_n X 0 dX9_setPower_40 rfl ?_
    have E : Z = ((h2 2) 7, va_up h2 2 r3) := by subst e_r3; subst e_h2; exact hZ.symm.trans ((if_neg c1).trans rfl)
    exact q_iret X hret dX9_setPower_41 (by rw [E]) (by rw [E])
  · skip
    refine q_ldc X kc_X9_77 dX9_setPower_10 ?_
    have E : Z = ((-100001), h) := by exact hZ.symm.trans ((if_pos c1).trans rfl)
    exact q_iret X hret dX9_setPower_12 (by rw [E]) (by rw [E])
def S_X9_setController (h : Hp) (on : Int32) (pp : Int32) (ii : Int32) (bi : Int32) : Int32 × Hp := if (S_X9_inRange on 0 1) = 0 then (((-100001), h)) else (if (S_X9_inRange pp 0 200) = 0 then (((-100001), h)) else (if (S_X9_inRange ii 0 200) = 0 then (((-100001), h)) else (if (S_X9_inRange bi 0 100) = 0 then (((-100001), h)) else (let h5 : Hp := S_X1_remember h; let m7 : Int32 := if ((h5 2) 9) = on then (if ((h5 2) 10) = pp then (if ((h5 2) 11) = ii then (if ((h5 2) 12) = bi then (1) else (0)) else (0)) else (0)) else (0); let r12 : Nat → Int32 := va_up (h5 2) 9 on; let r13 : Nat → Int32 := va_up r12 10 pp; let r14 : Nat → Int32 := va_up r13 11 ii; let r15 : Nat → Int32 := va_up r14 12 bi; let m17 : Int32 := if m7 = 0 then (1) else (0); (m17, va_up h5 2 r15)))))
set_option maxRecDepth 100000 in
set_option maxHeartbeats 4000000 in
theorem c_X9_setController {G : Geo} {l : Launch} (hG : GOK G) {h : Hp} (on : Int32) (pp : Int32) (ii : Int32) (bi : Int32) (hK : KT G) : CM G l yX9_setController cX9_setController 6 (some .int) 6 166 [.ref (gA G 0 0), .int on, .int pp, .int ii, .int bi] h ((S_X9_setController h on pp ii bi).2) (some (.int ((S_X9_setController h on pp ii bi).1))) := by
  obtain ⟨Z, hZ⟩ : ∃ Z, S_X9_setController h on pp ii bi = Z := ⟨_, rfl⟩
  rw [hZ]
  refine q_enter hG mf_X9_setController (Nat.le_of_ble_eq_true rfl) ?_
  intro p e s m below meth c X hret
  have hT_0 : gT G 0 = 0 := hK 0 (by decide)
  have hT_1 : gT G 1 = 1 := hK 1 (by decide)
  have hT_2 : gT G 2 = 2 := hK 2 (by decide)
  have hT_3 : gT G 3 = 3 := hK 3 (by decide)
  have hT_4 : gT G 4 = 3 := hK 4 (by decide)
  have hT_5 : gT G 5 = 5 := hK 5 (by decide)
  have hT_6 : gT G 6 = 2 := hK 6 (by decide)
  have hT_7 : gT G 7 = 6 := hK 7 (by decide)
  have hT_8 : gT G 8 = 7 := hK 8 (by decide)
  have hT_9 : gT G 9 = 3 := hK 9 (by decide)
  have hT_10 : gT G 10 = 8 := hK 10 (by decide)
  refine q_lv (lv2 := [(0, .ref (gA G 0 0)), (1, .int on), (2, .int pp), (3, .int ii), (4, .int bi)]) rfl ?_
  refine q_iload_n X 1 dX9_setController_0 rfl ?_
  refine q_iconst (v := 0) X dX9_setController_1 (by decide) ?_
  refine q_iconst (v := 1) X dX9_setController_2 (by decide) ?_
  refine q_callS (h1 := _) (rest := []) (As := [.int on, .int 0, .int 1]) X (c_X9_inRange (l := l) hG   on 0 1 ) mf_X9_inRange ms_X9_inRange lk_X9_73 rfl ⟨by decide, by decide⟩ ⟨Nat.le_refl _, Nat.le_refl _⟩ rfl (Nat.le_of_ble_eq_true rfl) dX9_setController_3 (st2 := [.int (S_X9_inRange on 0 1)]) rfl ?_
  refine q_if_eq (tgt := 42) X dX9_setController_6 (by decide) (fun c1 => ?_) (fun c1 => ?_)
  · skip
    refine q_ldc X kc_X9_77 dX9_setController_42 ?_
    have E : Z = ((-100001), h) := by exact hZ.symm.trans ((if_pos c1).trans rfl)
    exact q_iret X hret dX9_setController_44 (by rw [E]) (by rw [E])
  · skip
    refine q_iload_n X 2 dX9_setController_9 rfl ?_
    refine q_iconst (v := 0) X dX9_setController_10 (by decide) ?_
    refine q_sipush (v := 200) X dX9_setController_11 (by decide) ?_
    refine q_callS (h1 := _) (rest := []) (As := [.int pp, .int 0, .int 200]) X (c_X9_inRange (l := l) hG   pp 0 200 ) mf_X9_inRange ms_X9_inRange lk_X9_73 rfl ⟨by decide, by decide⟩ ⟨Nat.le_refl _, Nat.le_refl _⟩ rfl (Nat.le_of_ble_eq_true rfl) dX9_setController_14 (st2 := [.int (S_X9_inRange pp 0 200)]) rfl ?_
    refine q_if_eq (tgt := 42) X dX9_setController_17 (by decide) (fun c2 => ?_) (fun c2 => ?_)
    · skip
      refine q_ldc X kc_X9_77 dX9_setController_42 ?_
      have E : Z = ((-100001), h) := by exact hZ.symm.trans ((if_neg c1).trans ((if_pos c2).trans rfl))
      exact q_iret X hret dX9_setController_44 (by rw [E]) (by rw [E])
    · skip
      refine q_iload_n X 3 dX9_setController_20 rfl ?_
      refine q_iconst (v := 0) X dX9_setController_21 (by decide) ?_
      refine q_sipush (v := 200) X dX9_setController_22 (by decide) ?_
      refine q_callS (h1 := _) (rest := []) (As := [.int ii, .int 0, .int 200]) X (c_X9_inRange (l := l) hG   ii 0 200 ) mf_X9_inRange ms_X9_inRange lk_X9_73 rfl ⟨by decide, by decide⟩ ⟨Nat.le_refl _, Nat.le_refl _⟩ rfl (Nat.le_of_ble_eq_true rfl) dX9_setController_25 (st2 := [.int (S_X9_inRange ii 0 200)]) rfl ?_
      refine q_if_eq (tgt := 42) X dX9_setController_28 (by decide) (fun c3 => ?_) (fun c3 => ?_)
      · skip
        refine q_ldc X kc_X9_77 dX9_setController_42 ?_
        have E : Z = ((-100001), h) := by exact hZ.symm.trans ((if_neg c1).trans ((if_neg c2).trans ((if_pos c3).trans rfl)))
        exact q_iret X hret dX9_setController_44 (by rw [E]) (by rw [E])
      · skip
        refine q_iload X 4 dX9_setController_31 rfl ?_
        refine q_iconst (v := 0) X dX9_setController_33 (by decide) ?_
        refine q_bipush (v := 100) X dX9_setController_34 (by decide) ?_
        refine q_callS (h1 := _) (rest := []) (As := [.int bi, .int 0, .int 100]) X (c_X9_inRange (l := l) hG   bi 0 100 ) mf_X9_inRange ms_X9_inRange lk_X9_73 rfl ⟨by decide, by decide⟩ ⟨Nat.le_refl _, Nat.le_refl _⟩ rfl (Nat.le_of_ble_eq_true rfl) dX9_setController_36 (st2 := [.int (S_X9_inRange bi 0 100)]) rfl ?_
        refine q_if_ne (tgt := 45) X dX9_setController_39 (by decide) (fun c4 => ?_) (fun c4 => ?_)
        · skip
          refine q_aload_n X 0 dX9_setController_45 rfl ?_
          refine q_get (fk := 6) (v := .ref (gA G 10 0)) X cf_X9 (ac_0_0 hT_0) (by decide) fl_X9_45 rfl rfl dX9_setController_46 rfl ?_
          refine q_aload_n X 0 dX9_setController_49 rfl ?_
          refine q_get (fk := 0) (v := .ref (gA G 1 0)) X cf_X9 (ac_0_0 hT_0) (by decide) fl_X9_10 rfl rfl dX9_setController_50 rfl ?_
          obtain ⟨h5, e_h5⟩ : ∃ z : Hp, z = S_X1_remember h := ⟨_, rfl⟩
          refine q_callV (h1 := _) (rest := []) (As := [.ref (gA G 1 0)]) X (c_X1_remember (l := l) hG    hK) mf_X1_remember mv_X1_remember cf_X1 rfl (ac_8_0 hT_10) lk_X9_78 rfl ⟨by decide, by decide⟩ ⟨Nat.le_refl _, Nat.le_refl _⟩ rfl (Nat.le_of_ble_eq_true rfl) dX9_setController_53 (st2 := []) rfl ?_
          refine q_eq (h2 := h5) (by rw [e_h5]) rfl ?_
          refine q_aload_n X 0 dX9_setController_56 rfl ?_
          refine q_get (fk := 2) (v := .ref (gA G 2 1)) X cf_X9 (ac_0_0 hT_0) (by decide) fl_X9_27 rfl rfl dX9_setController_57 rfl ?_
          refine q_geti (fk := 1) (x := (h5 2) 9) X cf_X5 (ac_2_1 hT_2) (by decide) fl_X9_91 rfl rfl dX9_setController_60 (rfl) rfl ?_
          refine q_iload_n X 1 dX9_setController_63 rfl ?_
          suffices hJ11 : ∀ (m7 : Int32), m7 = (if ((h5 2) 9) = on then (if ((h5 2) 10) = pp then (if ((h5 2) 11) = ii then (if ((h5 2) 12) = bi then (1) else (0)) else (0)) else (0)) else (0)) → VV G (AA G) p l e { frames := 6, cells := 0, slots := 0, locals := 166 } s m ([.ref (gA G 0 0), .int on, .int pp, .int ii, .int bi] : List Value).toArray below meth c 0 0 (MQ below (QC G Z.2 (some (.int Z.1))) ([.ref (gA G 0 0), .int on, .int pp, .int ii, .int bi] : List Value).toArray s 0 0 (AA G)) 6 h5 106 [(0, .ref (gA G 0 0)), (1, .int on), (2, .int pp), (3, .int ii), (4, .int bi)] [.int m7] by
            refine q_icmp_ne (tgt := 105) X dX9_setController_64 (by decide) (fun c6 => ?_) (fun c6 => ?_)
            · skip
              refine q_iconst (v := 0) X dX9_setController_105 (by decide) ?_
              refine q_sub (lv2 := [(0, .ref (gA G 0 0)), (1, .int on), (2, .int pp), (3, .int ii), (4, .int bi)]) [0, 1, 2, 3, 4] rfl ?_
              exact hJ11 0 (by exact ((if_neg c6).trans rfl).symm)
            · skip
              refine q_aload_n X 0 dX9_setController_67 rfl ?_
              refine q_get (fk := 2) (v := .ref (gA G 2 1)) X cf_X9 (ac_0_0 hT_0) (by decide) fl_X9_27 rfl rfl dX9_setController_68 rfl ?_
              refine q_geti (fk := 2) (x := (h5 2) 10) X cf_X5 (ac_2_1 hT_2) (by decide) fl_X9_94 rfl rfl dX9_setController_71 (rfl) rfl ?_
              refine q_iload_n X 2 dX9_setController_74 rfl ?_
              refine q_icmp_ne (tgt := 105) X dX9_setController_75 (by decide) (fun c8 => ?_) (fun c8 => ?_)
              · skip
                refine q_iconst (v := 0) X dX9_setController_105 (by decide) ?_
                refine q_sub (lv2 := [(0, .ref (gA G 0 0)), (1, .int on), (2, .int pp), (3, .int ii), (4, .int bi)]) [0, 1, 2, 3, 4] rfl ?_
                exact hJ11 0 (by exact ((if_pos c6).trans ((if_neg c8).trans rfl)).symm)
              · skip
                refine q_aload_n X 0 dX9_setController_78 rfl ?_
                refine q_get (fk := 2) (v := .ref (gA G 2 1)) X cf_X9 (ac_0_0 hT_0) (by decide) fl_X9_27 rfl rfl dX9_setController_79 rfl ?_
                refine q_geti (fk := 3) (x := (h5 2) 11) X cf_X5 (ac_2_1 hT_2) (by decide) fl_X9_97 rfl rfl dX9_setController_82 (rfl) rfl ?_
                refine q_iload_n X 3 dX9_setController_85 rfl ?_
                refine q_icmp_ne (tgt := 105) X dX9_setController_86 (by decide) (fun c9 => ?_) (fun c9 => ?_)
                · skip
                  refine q_iconst (v := 0) X dX9_setController_105 (by decide) ?_
                  refine q_sub (lv2 := [(0, .ref (gA G 0 0)), (1, .int on), (2, .int pp), (3, .int ii), (4, .int bi)]) [0, 1, 2, 3, 4] rfl ?_
                  exact hJ11 0 (by exact ((if_pos c6).trans ((if_pos c8).trans ((if_neg c9).trans rfl))).symm)
                · skip
                  refine q_aload_n X 0 dX9_setController_89 rfl ?_
                  refine q_get (fk := 2) (v := .ref (gA G 2 1)) X cf_X9 (ac_0_0 hT_0) (by decide) fl_X9_27 rfl rfl dX9_setController_90 rfl ?_
                  refine q_geti (fk := 4) (x := (h5 2) 12) X cf_X5 (ac_2_1 hT_2) (by decide) fl_X9_100 rfl rfl dX9_setController_93 (rfl) rfl ?_
                  refine q_iload X 4 dX9_setController_96 rfl ?_
                  refine q_icmp_ne (tgt := 105) X dX9_setController_98 (by decide) (fun c10 => ?_) (fun c10 => ?_)
                  · skip
                    refine q_iconst (v := 0) X dX9_setController_105 (by decide) ?_
                    refine q_sub (lv2 := [(0, .ref (gA G 0 0)), (1, .int on), (2, .int pp), (3, .int ii), (4, .int bi)]) [0, 1, 2, 3, 4] rfl ?_
                    exact hJ11 0 (by exact ((if_pos c6).trans ((if_pos c8).trans ((if_pos c9).trans ((if_neg c10).trans rfl)))).symm)
                  · skip
                    refine q_iconst (v := 1) X dX9_setController_101 (by decide) ?_
                    refine q_goto (tgt := 106) X dX9_setController_102 (by decide) ?_
                    refine q_sub (lv2 := [(0, .ref (gA G 0 0)), (1, .int on), (2, .int pp), (3, .int ii), (4, .int bi)]) [0, 1, 2, 3, 4] rfl ?_
                    exact hJ11 1 (by exact ((if_pos c6).trans ((if_pos c8).trans ((if_pos c9).trans ((if_pos c10).trans rfl)))).symm)
          intro m7 e_m7
          refine q_istore (lv' := [(5, .int m7), (0, .ref (gA G 0 0)), (1, .int on), (2, .int pp), (3, .int ii), (4, .int bi)]) X dX9_setController_106 (by decide) rfl ?_
          refine q_aload_n X 1 dX9_setController_108 rfl ?_
          refine q_get (fk := 2) (v := .ref (gA G 2 1)) X cf_X9 (ac_0_0 hT_0) (by decide) fl_X9_27 rfl rfl dX9_setController_109 rfl ?_
          refine q_iload_n X 2 dX9_setController_112 rfl ?_
          obtain ⟨r12, e_r12⟩ : ∃ z : Nat → Int32, z = va_up (h5 2) 9 on := ⟨_, rfl⟩
          refine q_put (fk := 1) (h2 := va_up h5 2 r12) X cf_X5 (ac_2_1 hT_2) (by decide) fl_X9_91 rfl rfl (by rw [hT_2]; rfl) rfl rfl rfl dX9_setController_113 (rfl) (by rw [e_r12]) ?_
          refine q_aload_n X 1 dX9_setController_116 rfl ?_
          refine q_get (fk := 2) (v := .ref (gA G 2 1)) X cf_X9 (ac_0_0 hT_0) (by decide) fl_X9_27 rfl rfl dX9_setController_117 rfl ?_
          refine q_iload_n X 3 dX9_setController_120 rfl ?_
          obtain ⟨r13, e_r13⟩ : ∃ z : Nat → Int32, z = va_up r12 10 pp := ⟨_, rfl⟩
          refine q_put (fk := 2) (h2 := va_up h5 2 r13) X cf_X5 (ac_2_1 hT_2) (by decide) fl_X9_94 rfl rfl (by rw [hT_2]; rfl) rfl rfl rfl dX9_setController_121 (va_up_self _ _ _) (by rw [e_r13, va_up_up]) ?_
          refine q_aload_n X 1 dX9_setController_124 rfl ?_
          refine q_get (fk := 2) (v := .ref (gA G 2 1)) X cf_X9 (ac_0_0 hT_0) (by decide) fl_X9_27 rfl rfl dX9_setController_125 rfl ?_
          refine q_iload_n X 4 dX9_setController_128 rfl ?_
          obtain ⟨r14, e_r14⟩ : ∃ z : Nat → Int32, z = va_up r13 11 ii := ⟨_, rfl⟩
          refine q_put (fk := 3) (h2 := va_up h5 2 r14) X cf_X5 (ac_2_1 hT_2) (by decide) fl_X9_97 rfl rfl (by rw [hT_2]; rfl) rfl rfl rfl dX9_setController_129 (va_up_self _ _ _) (by rw [e_r14, va_up_up]) ?_
          refine q_aload_n X 1 dX9_setController_132 rfl ?_
          refine q_get (fk := 2) (v := .ref (gA G 2 1)) X cf_X9 (ac_0_0 hT_0) (by decide) fl_X9_27 rfl rfl dX9_setController_133 rfl ?_
          refine q_iload X 5 dX9_setController_136 rfl ?_
          obtain ⟨r15, e_r15⟩ : ∃ z : Nat → Int32, z = va_up r14 12 bi := ⟨_, rfl⟩
          refine q_put (fk := 4) (h2 := va_up h5 2 r15) X cf_X5 (ac_2_1 hT_2) (by decide) fl_X9_100 rfl rfl (by rw [hT_2]; rfl) rfl rfl rfl dX9_setController_138 (va_up_self _ _ _) (by rw [e_r15, va_up_up]) ?_
          refine q_iload X 0 dX9_setController_141 rfl ?_
          suffices hJ18 : ∀ (m17 : Int32), m17 = (if m7 = 0 then (1) else (0)) → VV G (AA G) p l e { frames := 6, cells := 0, slots := 0, locals := 166 } s m ([.ref (gA G 0 0), .int on, .int pp, .int ii, .int bi] : List Value).toArray below meth c 0 0 (MQ below (QC G Z.2 (some (.int Z.1))) ([.ref (gA G 0 0), .int on, .int pp, .int ii, .int bi] : List Value).toArray s 0 0 (AA G)) 6 (va_up h5 2 r15) 151 [(5, .int m7), (0, .ref (gA G 0 0)), (1, .int on), (2, .int pp), (3, .int ii), (4, .int bi)] [.int m17] by
            refine q_if_eq (tgt := 150) X dX9_setController_143 (by decide) (fun c16 => ?_) (fun c16 => ?_)
            · skip
              refine q_iconst (v := 1) X dX9_setController_150 (by decide) ?_
              refine q_sub (lv2 := [(5, .int m7), (0, .ref (gA G 0 0)), (1, .int on), (2, .int pp), (3, .int ii), (4, .int bi)]) [0, 1, 2, 3, 4, 5] rfl ?_
              exact hJ18 1 (by exact ((if_pos c16).trans rfl).symm)
            · skip
              refine q_iconst (v := 0) X dX9_setController_146 (by decide) ?_
              refine q_goto (tgt := 151) X dX9_setController_147 (by decide) ?_
              refine q_sub (lv2 := [(5, .int m7), (0, .ref (gA G 0 0)), (1, .int on), (2, .int pp), (3, .int ii), (4, .int bi)]) [0, 1, 2, 3, 4, 5] rfl ?_
              exact hJ18 0 (by exact ((if_neg c16).trans rfl).symm)
          intro m17 e_m17
          have E : Z = (m17, va_up h5 2 r15) := by subst e_m17; subst e_r15; subst e_r14; subst e_r13; subst e_r12; subst e_m7; subst e_h5; exact hZ.symm.trans ((if_neg c1).trans ((if_neg c2).trans ((if_neg c3).trans ((if_neg c4).trans rfl))))
          exact q_iret X hret dX9_setController_151 (by rw [E]) (by rw [E])
        · skip
          refine q_ldc X kc_X9_77 dX9_setController_42 ?_
          have E : Z = ((-100001), h) := by exact hZ.symm.trans ((if_neg c1).trans ((if_neg c2).trans ((if_neg c3).trans ((if_pos c4).trans rfl))))
          exact q_iret X hret dX9_setController_44 (by rw [E]) (by rw [E])
def S_X9_setProbe (h : Hp) (la : Int32) (fo : Int32) : Int32 × Hp := if (S_X9_inRange la 1 60) = 0 then (((-100001), h)) else (if (S_X9_inRange fo 0 5) = 0 then (((-100001), h)) else (let h3 : Hp := S_X1_remember h; let r4 : Nat → Int32 := va_up (h3 2) 5 la; let r5 : Nat → Int32 := va_up r4 6 fo; ((h3 2) 5, va_up h3 2 r5)))
set_option maxRecDepth 100000 in
set_option maxHeartbeats 4000000 in
theorem c_X9_setProbe {G : Geo} {l : Launch} (hG : GOK G) {h : Hp} (la : Int32) (fo : Int32) (hK : KT G) : CM G l yX9_setProbe cX9_setProbe 4 (some .int) 6 166 [.ref (gA G 0 0), .int la, .int fo] h ((S_X9_setProbe h la fo).2) (some (.int ((S_X9_setProbe h la fo).1))) := by
  obtain ⟨Z, hZ⟩ : ∃ Z, S_X9_setProbe h la fo = Z := ⟨_, rfl⟩
  rw [hZ]
  refine q_enter hG mf_X9_setProbe (Nat.le_of_ble_eq_true rfl) ?_
  intro p e s m below meth c X hret
  have hT_0 : gT G 0 = 0 := hK 0 (by decide)
  have hT_1 : gT G 1 = 1 := hK 1 (by decide)
  have hT_2 : gT G 2 = 2 := hK 2 (by decide)
  have hT_3 : gT G 3 = 3 := hK 3 (by decide)
  have hT_4 : gT G 4 = 3 := hK 4 (by decide)
  have hT_5 : gT G 5 = 5 := hK 5 (by decide)
  have hT_6 : gT G 6 = 2 := hK 6 (by decide)
  have hT_7 : gT G 7 = 6 := hK 7 (by decide)
  have hT_8 : gT G 8 = 7 := hK 8 (by decide)
  have hT_9 : gT G 9 = 3 := hK 9 (by decide)
  have hT_10 : gT G 10 = 8 := hK 10 (by decide)
  refine q_lv (lv2 := [(0, .ref (gA G 0 0)), (1, .int la), (2, .int fo)]) rfl ?_
  refine q_iload_n X 1 dX9_setProbe_0 rfl ?_
  refine q_iconst (v := 1) X dX9_setProbe_1 (by decide) ?_
  refine q_bipush (v := 60) X dX9_setProbe_2 (by decide) ?_
  refine q_callS (h1 := _) (rest := []) (As := [.int la, .int 1, .int 60]) X (c_X9_inRange (l := l) hG   la 1 60 ) mf_X9_inRange ms_X9_inRange lk_X9_73 rfl ⟨by decide, by decide⟩ ⟨Nat.le_refl _, Nat.le_refl _⟩ rfl (Nat.le_of_ble_eq_true rfl) dX9_setProbe_4 (st2 := [.int (S_X9_inRange la 1 60)]) rfl ?_
  refine q_if_eq (tgt := 19) X dX9_setProbe_7 (by decide) (fun c1 => ?_) (fun c1 => ?_)
  · skip
    refine q_ldc X kc_X9_77 dX9_setProbe_19 ?_
    have E : Z = ((-100001), h) := by exact hZ.symm.trans ((if_pos c1).trans rfl)
    exact q_iret X hret dX9_setProbe_21 (by rw [E]) (by rw [E])
  · skip
    refine q_iload_n X 2 dX9_setProbe_10 rfl ?_
    refine q_iconst (v := 0) X dX9_setProbe_11 (by decide) ?_
    refine q_iconst (v := 5) X dX9_setProbe_12 (by decide) ?_
    refine q_callS (h1 := _) (rest := []) (As := [.int fo, .int 0, .int 5]) X (c_X9_inRange (l := l) hG   fo 0 5 ) mf_X9_inRange ms_X9_inRange lk_X9_73 rfl ⟨by decide, by decide⟩ ⟨Nat.le_refl _, Nat.le_refl _⟩ rfl (Nat.le_of_ble_eq_true rfl) dX9_setProbe_13 (st2 := [.int (S_X9_inRange fo 0 5)]) rfl ?_
    refine q_if_ne (tgt := 22) X dX9_setProbe_16 (by decide) (fun c2 => ?_) (fun c2 => ?_)
    · skip
      refine q_aload_n X 0 dX9_setProbe_22 rfl ?_
      refine q_get (fk := 6) (v := .ref (gA G 10 0)) X cf_X9 (ac_0_0 hT_0) (by decide) fl_X9_45 rfl rfl dX9_setProbe_23 rfl ?_
      refine q_aload_n X 0 dX9_setProbe_26 rfl ?_
      refine q_get (fk := 0) (v := .ref (gA G 1 0)) X cf_X9 (ac_0_0 hT_0) (by decide) fl_X9_10 rfl rfl dX9_setProbe_27 rfl ?_
      obtain ⟨h3, e_h3⟩ : ∃ z : Hp, z = S_X1_remember h := ⟨_, rfl⟩
      refine q_callV (h1 := _) (rest := []) (As := [.ref (gA G 1 0)]) X (c_X1_remember (l := l) hG    hK) mf_X1_remember mv_X1_remember cf_X1 rfl (ac_8_0 hT_10) lk_X9_78 rfl ⟨by decide, by decide⟩ ⟨Nat.le_refl _, Nat.le_refl _⟩ rfl (Nat.le_of_ble_eq_true rfl) dX9_setProbe_30 (st2 := []) rfl ?_
      refine q_eq (h2 := h3) (by rw [e_h3]) rfl ?_
      refine q_aload_n X 0 dX9_setProbe_33 rfl ?_
      refine q_get (fk := 2) (v := .ref (gA G 2 1)) X cf_X9 (ac_0_0 hT_0) (by decide) fl_X9_27 rfl rfl dX9_setProbe_34 rfl ?_
      refine q_geti (fk := 5) (x := (h3 2) 5) X cf_X5 (ac_2_1 hT_2) (by decide) fl_X9_103 rfl rfl dX9_setProbe_37 (rfl) rfl ?_
      refine q_istore_n (lv' := [(3, .int ((h3 2) 5)), (0, .ref (gA G 0 0)), (1, .int la), (2, .int fo)]) X dX9_setProbe_40 (by decide) rfl ?_
      refine q_aload_n X 1 dX9_setProbe_41 rfl ?_
      refine q_get (fk := 2) (v := .ref (gA G 2 1)) X cf_X9 (ac_0_0 hT_0) (by decide) fl_X9_27 rfl rfl dX9_setProbe_42 rfl ?_
      refine q_iload_n X 2 dX9_setProbe_45 rfl ?_
      obtain ⟨r4, e_r4⟩ : ∃ z : Nat → Int32, z = va_up (h3 2) 5 la := ⟨_, rfl⟩
      refine q_put (fk := 5) (h2 := va_up h3 2 r4) X cf_X5 (ac_2_1 hT_2) (by decide) fl_X9_103 rfl rfl (by rw [hT_2]; rfl) rfl rfl rfl dX9_setProbe_46 (rfl) (by rw [e_r4]) ?_
      refine q_aload_n X 1 dX9_setProbe_49 rfl ?_
      refine q_get (fk := 2) (v := .ref (gA G 2 1)) X cf_X9 (ac_0_0 hT_0) (by decide) fl_X9_27 rfl rfl dX9_setProbe_50 rfl ?_
      refine q_iload_n X 3 dX9_setProbe_53 rfl ?_
      obtain ⟨r5, e_r5⟩ : ∃ z : Nat → Int32, z = va_up r4 6 fo := ⟨_, rfl⟩
      refine q_put (fk := 6) (h2 := va_up h3 2 r5) X cf_X5 (ac_2_1 hT_2) (by decide) fl_X9_106 rfl rfl (by rw [hT_2]; rfl) rfl rfl rfl dX9_setProbe_54 (va_up_self _ _ _) (by rw [e_r5, va_up_up]) ?_
      refine q_iload_n X 0 dX9_setProbe_57 rfl ?_
      have E : Z = ((h3 2) 5, va_up h3 2 r5) := by subst e_r5; subst e_r4; subst e_h3; exact hZ.symm.trans ((if_neg c1).trans ((if_neg c2).trans rfl))
      exact q_iret X hret dX9_setProbe_58 (by rw [E]) (by rw [E])
    · skip
      refine q_ldc X kc_X9_77 dX9_setProbe_19 ?_
      have E : Z = ((-100001), h) := by exact hZ.symm.trans ((if_neg c1).trans ((if_pos c2).trans rfl))
      exact q_iret X hret dX9_setProbe_21 (by rw [E]) (by rw [E])
def S_X9_setCrack (h : Hp) (te : Int32) (th : Int32) : Int32 × Hp := if (S_X9_inRange te 1500 2300) = 0 then (((-100001), h)) else (if (S_X9_inRange th 1 600) = 0 then (((-100001), h)) else (let h3 : Hp := S_X1_remember h; let m5 : Int32 := if ((h3 2) 14) = te then (if ((h3 2) 15) = th then (1) else (0)) else (0); let r8 : Nat → Int32 := va_up (h3 2) 14 te; let r9 : Nat → Int32 := va_up r8 15 th; let m11 : Int32 := if m5 = 0 then (1) else (0); (m11, va_up h3 2 r9)))
set_option maxRecDepth 100000 in
set_option maxHeartbeats 4000000 in
theorem c_X9_setCrack {G : Geo} {l : Launch} (hG : GOK G) {h : Hp} (te : Int32) (th : Int32) (hK : KT G) : CM G l yX9_setCrack cX9_setCrack 4 (some .int) 6 166 [.ref (gA G 0 0), .int te, .int th] h ((S_X9_setCrack h te th).2) (some (.int ((S_X9_setCrack h te th).1))) := by
  obtain ⟨Z, hZ⟩ : ∃ Z, S_X9_setCrack h te th = Z := ⟨_, rfl⟩
  rw [hZ]
  refine q_enter hG mf_X9_setCrack (Nat.le_of_ble_eq_true rfl) ?_
  intro p e s m below meth c X hret
  have hT_0 : gT G 0 = 0 := hK 0 (by decide)
  have hT_1 : gT G 1 = 1 := hK 1 (by decide)
  have hT_2 : gT G 2 = 2 := hK 2 (by decide)
  have hT_3 : gT G 3 = 3 := hK 3 (by decide)
  have hT_4 : gT G 4 = 3 := hK 4 (by decide)
  have hT_5 : gT G 5 = 5 := hK 5 (by decide)
  have hT_6 : gT G 6 = 2 := hK 6 (by decide)
  have hT_7 : gT G 7 = 6 := hK 7 (by decide)
  have hT_8 : gT G 8 = 7 := hK 8 (by decide)
  have hT_9 : gT G 9 = 3 := hK 9 (by decide)
  have hT_10 : gT G 10 = 8 := hK 10 (by decide)
  refine q_lv (lv2 := [(0, .ref (gA G 0 0)), (1, .int te), (2, .int th)]) rfl ?_
  refine q_iload_n X 1 dX9_setCrack_0 rfl ?_
  refine q_sipush (v := 1500) X dX9_setCrack_1 (by decide) ?_
  refine q_sipush (v := 2300) X dX9_setCrack_4 (by decide) ?_
  refine q_callS (h1 := _) (rest := []) (As := [.int te, .int 1500, .int 2300]) X (c_X9_inRange (l := l) hG   te 1500 2300 ) mf_X9_inRange ms_X9_inRange lk_X9_73 rfl ⟨by decide, by decide⟩ ⟨Nat.le_refl _, Nat.le_refl _⟩ rfl (Nat.le_of_ble_eq_true rfl) dX9_setCrack_7 (st2 := [.int (S_X9_inRange te 1500 2300)]) rfl ?_
  refine q_if_eq (tgt := 24) X dX9_setCrack_10 (by decide) (fun c1 => ?_) (fun c1 => ?_)
  · skip
    refine q_ldc X kc_X9_77 dX9_setCrack_24 ?_
    have E : Z = ((-100001), h) := by exact hZ.symm.trans ((if_pos c1).trans rfl)
    exact q_iret X hret dX9_setCrack_26 (by rw [E]) (by rw [E])
  · skip
    refine q_iload_n X 2 dX9_setCrack_13 rfl ?_
    refine q_iconst (v := 1) X dX9_setCrack_14 (by decide) ?_
    refine q_sipush (v := 600) X dX9_setCrack_15 (by decide) ?_
    refine q_callS (h1 := _) (rest := []) (As := [.int th, .int 1, .int 600]) X (c_X9_inRange (l := l) hG   th 1 600 ) mf_X9_inRange ms_X9_inRange lk_X9_73 rfl ⟨by decide, by decide⟩ ⟨Nat.le_refl _, Nat.le_refl _⟩ rfl (Nat.le_of_ble_eq_true rfl) dX9_setCrack_18 (st2 := [.int (S_X9_inRange th 1 600)]) rfl ?_
    refine q_if_ne (tgt := 27) X dX9_setCrack_21 (by decide) (fun c2 => ?_) (fun c2 => ?_)
    · skip
      refine q_aload_n X 0 dX9_setCrack_27 rfl ?_
      refine q_get (fk := 6) (v := .ref (gA G 10 0)) X cf_X9 (ac_0_0 hT_0) (by decide) fl_X9_45 rfl rfl dX9_setCrack_28 rfl ?_
      refine q_aload_n X 0 dX9_setCrack_31 rfl ?_
      refine q_get (fk := 0) (v := .ref (gA G 1 0)) X cf_X9 (ac_0_0 hT_0) (by decide) fl_X9_10 rfl rfl dX9_setCrack_32 rfl ?_
      obtain ⟨h3, e_h3⟩ : ∃ z : Hp, z = S_X1_remember h := ⟨_, rfl⟩
      refine q_callV (h1 := _) (rest := []) (As := [.ref (gA G 1 0)]) X (c_X1_remember (l := l) hG    hK) mf_X1_remember mv_X1_remember cf_X1 rfl (ac_8_0 hT_10) lk_X9_78 rfl ⟨by decide, by decide⟩ ⟨Nat.le_refl _, Nat.le_refl _⟩ rfl (Nat.le_of_ble_eq_true rfl) dX9_setCrack_35 (st2 := []) rfl ?_
      refine q_eq (h2 := h3) (by rw [e_h3]) rfl ?_
      refine q_aload_n X 0 dX9_setCrack_38 rfl ?_
      refine q_get (fk := 2) (v := .ref (gA G 2 1)) X cf_X9 (ac_0_0 hT_0) (by decide) fl_X9_27 rfl rfl dX9_setCrack_39 rfl ?_
      refine q_geti (fk := 7) (x := (h3 2) 14) X cf_X5 (ac_2_1 hT_2) (by decide) fl_X9_109 rfl rfl dX9_setCrack_42 (rfl) rfl ?_
      refine q_iload_n X 1 dX9_setCrack_45 rfl ?_
      suffices hJ7 : ∀ (m5 : Int32), m5 = (if ((h3 2) 14) = te then (if ((h3 2) 15) = th then (1) else (0)) else (0)) → VV G (AA G) p l e { frames := 6, cells := 0, slots := 0, locals := 166 } s m ([.ref (gA G 0 0), .int te, .int th] : List Value).toArray below meth c 0 0 (MQ below (QC G Z.2 (some (.int Z.1))) ([.ref (gA G 0 0), .int te, .int th] : List Value).toArray s 0 0 (AA G)) 4 h3 65 [(0, .ref (gA G 0 0)), (1, .int te), (2, .int th)] [.int m5] by
        refine q_icmp_ne (tgt := 64) X dX9_setCrack_46 (by decide) (fun c4 => ?_) (fun c4 => ?_)
        · skip
          refine q_iconst (v := 0) X dX9_setCrack_64 (by decide) ?_
          refine q_sub (lv2 := [(0, .ref (gA G 0 0)), (1, .int te), (2, .int th)]) [0, 1, 2] rfl ?_
          exact hJ7 0 (by exact ((if_neg c4).trans rfl).symm)
        · skip
          refine q_aload_n X 0 dX9_setCrack_49 rfl ?_
          refine q_get (fk := 2) (v := .ref (gA G 2 1)) X cf_X9 (ac_0_0 hT_0) (by decide) fl_X9_27 rfl rfl dX9_setCrack_50 rfl ?_
          refine q_geti (fk := 8) (x := (h3 2) 15) X cf_X5 (ac_2_1 hT_2) (by decide) fl_X9_112 rfl rfl dX9_setCrack_53 (rfl) rfl ?_
          refine q_iload_n X 2 dX9_setCrack_56 rfl ?_
          refine q_icmp_ne (tgt := 64) X dX9_setCrack_57 (by decide) (fun c6 => ?_) (fun c6 => ?_)
          · skip
            refine q_iconst (v := 0) X dX9_setCrack_64 (by decide) ?_
            refine q_sub (lv2 := [(0, .ref (gA G 0 0)), (1, .int te), (2, .int th)]) [0, 1, 2] rfl ?_
            exact hJ7 0 (by exact ((if_pos c4).trans ((if_neg c6).trans rfl)).symm)
          · skip
            refine q_iconst (v := 1) X dX9_setCrack_60 (by decide) ?_
            refine q_goto (tgt := 65) X dX9_setCrack_61 (by decide) ?_
            refine q_sub (lv2 := [(0, .ref (gA G 0 0)), (1, .int te), (2, .int th)]) [0, 1, 2] rfl ?_
            exact hJ7 1 (by exact ((if_pos c4).trans ((if_pos c6).trans rfl)).symm)
      intro m5 e_m5
      refine q_istore_n (lv' := [(3, .int m5), (0, .ref (gA G 0 0)), (1, .int te), (2, .int th)]) X dX9_setCrack_65 (by decide) rfl ?_
      refine q_aload_n X 1 dX9_setCrack_66 rfl ?_
      refine q_get (fk := 2) (v := .ref (gA G 2 1)) X cf_X9 (ac_0_0 hT_0) (by decide) fl_X9_27 rfl rfl dX9_setCrack_67 rfl ?_
      refine q_iload_n X 2 dX9_setCrack_70 rfl ?_
      obtain ⟨r8, e_r8⟩ : ∃ z : Nat → Int32, z = va_up (h3 2) 14 te := ⟨_, rfl⟩
      refine q_put (fk := 7) (h2 := va_up h3 2 r8) X cf_X5 (ac_2_1 hT_2) (by decide) fl_X9_109 rfl rfl (by rw [hT_2]; rfl) rfl rfl rfl dX9_setCrack_71 (rfl) (by rw [e_r8]) ?_
      refine q_aload_n X 1 dX9_setCrack_74 rfl ?_
      refine q_get (fk := 2) (v := .ref (gA G 2 1)) X cf_X9 (ac_0_0 hT_0) (by decide) fl_X9_27 rfl rfl dX9_setCrack_75 rfl ?_
      refine q_iload_n X 3 dX9_setCrack_78 rfl ?_
      obtain ⟨r9, e_r9⟩ : ∃ z : Nat → Int32, z = va_up r8 15 th := ⟨_, rfl⟩
      refine q_put (fk := 8) (h2 := va_up h3 2 r9) X cf_X5 (ac_2_1 hT_2) (by decide) fl_X9_112 rfl rfl (by rw [hT_2]; rfl) rfl rfl rfl dX9_setCrack_79 (va_up_self _ _ _) (by rw [e_r9, va_up_up]) ?_
      refine q_iload_n X 0 dX9_setCrack_82 rfl ?_
      suffices hJ12 : ∀ (m11 : Int32), m11 = (if m5 = 0 then (1) else (0)) → VV G (AA G) p l e { frames := 6, cells := 0, slots := 0, locals := 166 } s m ([.ref (gA G 0 0), .int te, .int th] : List Value).toArray below meth c 0 0 (MQ below (QC G Z.2 (some (.int Z.1))) ([.ref (gA G 0 0), .int te, .int th] : List Value).toArray s 0 0 (AA G)) 4 (va_up h3 2 r9) 91 [(3, .int m5), (0, .ref (gA G 0 0)), (1, .int te), (2, .int th)] [.int m11] by
        refine q_if_eq (tgt := 90) X dX9_setCrack_83 (by decide) (fun c10 => ?_) (fun c10 => ?_)
        · skip
          refine q_iconst (v := 1) X dX9_setCrack_90 (by decide) ?_
          refine q_sub (lv2 := [(3, .int m5), (0, .ref (gA G 0 0)), (1, .int te), (2, .int th)]) [0, 1, 2, 3] rfl ?_
          exact hJ12 1 (by exact ((if_pos c10).trans rfl).symm)
        · skip
          refine q_iconst (v := 0) X dX9_setCrack_86 (by decide) ?_
          refine q_goto (tgt := 91) X dX9_setCrack_87 (by decide) ?_
          refine q_sub (lv2 := [(3, .int m5), (0, .ref (gA G 0 0)), (1, .int te), (2, .int th)]) [0, 1, 2, 3] rfl ?_
          exact hJ12 0 (by exact ((if_neg c10).trans rfl).symm)
      intro m11 e_m11
      have E : Z = (m11, va_up h3 2 r9) := by subst e_m11; subst e_r9; subst e_r8; subst e_m5; subst e_h3; exact hZ.symm.trans ((if_neg c1).trans ((if_neg c2).trans rfl))
      exact q_iret X hret dX9_setCrack_91 (by rw [E]) (by rw [E])
    · skip
      refine q_ldc X kc_X9_77 dX9_setCrack_24 ?_
      have E : Z = ((-100001), h) := by exact hZ.symm.trans ((if_neg c1).trans ((if_pos c2).trans rfl))
      exact q_iret X hret dX9_setCrack_26 (by rw [E]) (by rw [E])
def S_X9_setFan (h : Hp) (fa : Int32) : Int32 × Hp := if (S_X9_inRange fa 1 50) = 0 then (((-100001), h)) else (let h2 : Hp := S_X1_remember h; let r3 : Nat → Int32 := va_up (h2 2) 8 fa; ((h2 2) 8, va_up h2 2 r3))
set_option maxRecDepth 100000 in
set_option maxHeartbeats 4000000 in
theorem c_X9_setFan {G : Geo} {l : Launch} (hG : GOK G) {h : Hp} (fa : Int32) (hK : KT G) : CM G l yX9_setFan cX9_setFan 3 (some .int) 6 166 [.ref (gA G 0 0), .int fa] h ((S_X9_setFan h fa).2) (some (.int ((S_X9_setFan h fa).1))) := by
  obtain ⟨Z, hZ⟩ : ∃ Z, S_X9_setFan h fa = Z := ⟨_, rfl⟩
  rw [hZ]
  refine q_enter hG mf_X9_setFan (Nat.le_of_ble_eq_true rfl) ?_
  intro p e s m below meth c X hret
  have hT_0 : gT G 0 = 0 := hK 0 (by decide)
  have hT_1 : gT G 1 = 1 := hK 1 (by decide)
  have hT_2 : gT G 2 = 2 := hK 2 (by decide)
  have hT_3 : gT G 3 = 3 := hK 3 (by decide)
  have hT_4 : gT G 4 = 3 := hK 4 (by decide)
  have hT_5 : gT G 5 = 5 := hK 5 (by decide)
  have hT_6 : gT G 6 = 2 := hK 6 (by decide)
  have hT_7 : gT G 7 = 6 := hK 7 (by decide)
  have hT_8 : gT G 8 = 7 := hK 8 (by decide)
  have hT_9 : gT G 9 = 3 := hK 9 (by decide)
  have hT_10 : gT G 10 = 8 := hK 10 (by decide)
  refine q_lv (lv2 := [(0, .ref (gA G 0 0)), (1, .int fa)]) rfl ?_
  refine q_iload_n X 1 dX9_setFan_0 rfl ?_
  refine q_iconst (v := 1) X dX9_setFan_1 (by decide) ?_
  refine q_bipush (v := 50) X dX9_setFan_2 (by decide) ?_
  refine q_callS (h1 := _) (rest := []) (As := [.int fa, .int 1, .int 50]) X (c_X9_inRange (l := l) hG   fa 1 50 ) mf_X9_inRange ms_X9_inRange lk_X9_73 rfl ⟨by decide, by decide⟩ ⟨Nat.le_refl _, Nat.le_refl _⟩ rfl (Nat.le_of_ble_eq_true rfl) dX9_setFan_4 (st2 := [.int (S_X9_inRange fa 1 50)]) rfl ?_
  refine q_if_ne (tgt := 13) X dX9_setFan_7 (by decide) (fun c1 => ?_) (fun c1 => ?_)
  · skip
    refine q_aload_n X 0 dX9_setFan_13 rfl ?_
    refine q_get (fk := 6) (v := .ref (gA G 10 0)) X cf_X9 (ac_0_0 hT_0) (by decide) fl_X9_45 rfl rfl dX9_setFan_14 rfl ?_
    refine q_aload_n X 0 dX9_setFan_17 rfl ?_
    refine q_get (fk := 0) (v := .ref (gA G 1 0)) X cf_X9 (ac_0_0 hT_0) (by decide) fl_X9_10 rfl rfl dX9_setFan_18 rfl ?_
    obtain ⟨h2, e_h2⟩ : ∃ z : Hp, z = S_X1_remember h := ⟨_, rfl⟩
    refine q_callV (h1 := _) (rest := []) (As := [.ref (gA G 1 0)]) X (c_X1_remember (l := l) hG    hK) mf_X1_remember mv_X1_remember cf_X1 rfl (ac_8_0 hT_10) lk_X9_78 rfl ⟨by decide, by decide⟩ ⟨Nat.le_refl _, Nat.le_refl _⟩ rfl (Nat.le_of_ble_eq_true rfl) dX9_setFan_21 (st2 := []) rfl ?_
    refine q_eq (h2 := h2) (by rw [e_h2]) rfl ?_
    refine q_aload_n X 0 dX9_setFan_24 rfl ?_
    refine q_get (fk := 2) (v := .ref (gA G 2 1)) X cf_X9 (ac_0_0 hT_0) (by decide) fl_X9_27 rfl rfl dX9_setFan_25 rfl ?_
    refine q_geti (fk := 9) (x := (h2 2) 8) X cf_X5 (ac_2_1 hT_2) (by decide) fl_X9_115 rfl rfl dX9_setFan_28 (rfl) rfl ?_
    refine q_istore_n (lv' := [(2, .int ((h2 2) 8)), (0, .ref (gA G 0 0)), (1, .int fa)]) X dX9_setFan_31 (by decide) rfl ?_
    refine q_aload_n X 1 dX9_setFan_32 rfl ?_
    refine q_get (fk := 2) (v := .ref (gA G 2 1)) X cf_X9 (ac_0_0 hT_0) (by decide) fl_X9_27 rfl rfl dX9_setFan_33 rfl ?_
    refine q_iload_n X 2 dX9_setFan_36 rfl ?_
    obtain ⟨r3, e_r3⟩ : ∃ z : Nat → Int32, z = va_up (h2 2) 8 fa := ⟨_, rfl⟩
    refine q_put (fk := 9) (h2 := va_up h2 2 r3) X cf_X5 (ac_2_1 hT_2) (by decide) fl_X9_115 rfl rfl (by rw [hT_2]; rfl) rfl rfl rfl dX9_setFan_37 (rfl) (by rw [e_r3]) ?_
    refine q_iload_n X 0 dX9_setFan_40 rfl ?_
    have E : Z = ((h2 2) 8, va_up h2 2 r3) := by subst e_r3; subst e_h2; exact hZ.symm.trans ((if_neg c1).trans rfl)
    exact q_iret X hret dX9_setFan_41 (by rw [E]) (by rw [E])
  · skip
    refine q_ldc X kc_X9_77 dX9_setFan_10 ?_
    have E : Z = ((-100001), h) := by exact hZ.symm.trans ((if_pos c1).trans rfl)
    exact q_iret X hret dX9_setFan_12 (by rw [E]) (by rw [E])
def S_X9_setPoint (h : Hp) (ti : Int32) (te : Int32) : Int32 × Hp := if (S_X9_inRange ti 0 400) = 0 then (((-100001), h)) else (if (S_X9_inRange te 0 3000) = 0 then (((-100001), h)) else (if (S_X6_hasRoomFor (h 3) 8 ti) = 0 then (((-100003), h)) else (let h4 : Hp := S_X1_remember h; let r5 : Nat → Int32 := S_X6_set (h4 3) 8 ti te; (r5 0, va_up h4 3 r5))))
set_option maxRecDepth 100000 in
set_option maxHeartbeats 4000000 in
theorem c_X9_setPoint {G : Geo} {l : Launch} (hG : GOK G) {h : Hp} (ti : Int32) (te : Int32) (hK : KT G) : CM G l yX9_setPoint cX9_setPoint 3 (some .int) 6 166 [.ref (gA G 0 0), .int ti, .int te] h ((S_X9_setPoint h ti te).2) (some (.int ((S_X9_setPoint h ti te).1))) := by
  obtain ⟨Z, hZ⟩ : ∃ Z, S_X9_setPoint h ti te = Z := ⟨_, rfl⟩
  rw [hZ]
  refine q_enter hG mf_X9_setPoint (Nat.le_of_ble_eq_true rfl) ?_
  intro p e s m below meth c X hret
  have hT_0 : gT G 0 = 0 := hK 0 (by decide)
  have hT_1 : gT G 1 = 1 := hK 1 (by decide)
  have hT_2 : gT G 2 = 2 := hK 2 (by decide)
  have hT_3 : gT G 3 = 3 := hK 3 (by decide)
  have hT_4 : gT G 4 = 3 := hK 4 (by decide)
  have hT_5 : gT G 5 = 5 := hK 5 (by decide)
  have hT_6 : gT G 6 = 2 := hK 6 (by decide)
  have hT_7 : gT G 7 = 6 := hK 7 (by decide)
  have hT_8 : gT G 8 = 7 := hK 8 (by decide)
  have hT_9 : gT G 9 = 3 := hK 9 (by decide)
  have hT_10 : gT G 10 = 8 := hK 10 (by decide)
  refine q_lv (lv2 := [(0, .ref (gA G 0 0)), (1, .int ti), (2, .int te)]) rfl ?_
  refine q_iload_n X 1 dX9_setPoint_0 rfl ?_
  refine q_iconst (v := 0) X dX9_setPoint_1 (by decide) ?_
  refine q_sipush (v := 400) X dX9_setPoint_2 (by decide) ?_
  refine q_callS (h1 := _) (rest := []) (As := [.int ti, .int 0, .int 400]) X (c_X9_inRange (l := l) hG   ti 0 400 ) mf_X9_inRange ms_X9_inRange lk_X9_73 rfl ⟨by decide, by decide⟩ ⟨Nat.le_refl _, Nat.le_refl _⟩ rfl (Nat.le_of_ble_eq_true rfl) dX9_setPoint_5 (st2 := [.int (S_X9_inRange ti 0 400)]) rfl ?_
  refine q_if_eq (tgt := 22) X dX9_setPoint_8 (by decide) (fun c1 => ?_) (fun c1 => ?_)
  · skip
    refine q_ldc X kc_X9_77 dX9_setPoint_22 ?_
    have E : Z = ((-100001), h) := by exact hZ.symm.trans ((if_pos c1).trans rfl)
    exact q_iret X hret dX9_setPoint_24 (by rw [E]) (by rw [E])
  · skip
    refine q_iload_n X 2 dX9_setPoint_11 rfl ?_
    refine q_iconst (v := 0) X dX9_setPoint_12 (by decide) ?_
    refine q_sipush (v := 3000) X dX9_setPoint_13 (by decide) ?_
    refine q_callS (h1 := _) (rest := []) (As := [.int te, .int 0, .int 3000]) X (c_X9_inRange (l := l) hG   te 0 3000 ) mf_X9_inRange ms_X9_inRange lk_X9_73 rfl ⟨by decide, by decide⟩ ⟨Nat.le_refl _, Nat.le_refl _⟩ rfl (Nat.le_of_ble_eq_true rfl) dX9_setPoint_16 (st2 := [.int (S_X9_inRange te 0 3000)]) rfl ?_
    refine q_if_ne (tgt := 25) X dX9_setPoint_19 (by decide) (fun c2 => ?_) (fun c2 => ?_)
    · skip
      refine q_aload_n X 0 dX9_setPoint_25 rfl ?_
      refine q_get (fk := 3) (v := .ref (gA G 3 0)) X cf_X9 (ac_0_0 hT_0) (by decide) fl_X9_32 rfl rfl dX9_setPoint_26 rfl ?_
      refine q_iload_n X 1 dX9_setPoint_29 rfl ?_
      refine q_callV (h1 := _) (rest := []) (As := [.int ti]) X (c_X6_hasRoomFor (l := l) hG (ρ := (h 3)) (n := 8) ti hT_3 (rfl) (by rw [hT_3]; rfl)) mf_X6_hasRoomFor mv_X6_hasRoomFor cf_X6 rfl (ac_3_0 hT_3) lk_X9_118 rfl ⟨by decide, by decide⟩ ⟨Nat.le_refl _, Nat.le_refl _⟩ rfl (Nat.le_of_ble_eq_true rfl) dX9_setPoint_30 (st2 := [.int (S_X6_hasRoomFor (h 3) 8 ti)]) rfl ?_
      refine q_if_ne (tgt := 39) X dX9_setPoint_33 (by decide) (fun c3 => ?_) (fun c3 => ?_)
      · skip
        refine q_aload_n X 0 dX9_setPoint_39 rfl ?_
        refine q_get (fk := 6) (v := .ref (gA G 10 0)) X cf_X9 (ac_0_0 hT_0) (by decide) fl_X9_45 rfl rfl dX9_setPoint_40 rfl ?_
        refine q_aload_n X 0 dX9_setPoint_43 rfl ?_
        refine q_get (fk := 0) (v := .ref (gA G 1 0)) X cf_X9 (ac_0_0 hT_0) (by decide) fl_X9_10 rfl rfl dX9_setPoint_44 rfl ?_
        obtain ⟨h4, e_h4⟩ : ∃ z : Hp, z = S_X1_remember h := ⟨_, rfl⟩
        refine q_callV (h1 := _) (rest := []) (As := [.ref (gA G 1 0)]) X (c_X1_remember (l := l) hG    hK) mf_X1_remember mv_X1_remember cf_X1 rfl (ac_8_0 hT_10) lk_X9_78 rfl ⟨by decide, by decide⟩ ⟨Nat.le_refl _, Nat.le_refl _⟩ rfl (Nat.le_of_ble_eq_true rfl) dX9_setPoint_47 (st2 := []) rfl ?_
        refine q_eq (h2 := h4) (by rw [e_h4]) rfl ?_
        refine q_aload_n X 0 dX9_setPoint_50 rfl ?_
        refine q_get (fk := 3) (v := .ref (gA G 3 0)) X cf_X9 (ac_0_0 hT_0) (by decide) fl_X9_32 rfl rfl dX9_setPoint_51 rfl ?_
        refine q_iload_n X 1 dX9_setPoint_54 rfl ?_
        refine q_iload_n X 2 dX9_setPoint_55 rfl ?_
        obtain ⟨r5, e_r5⟩ : ∃ z : Nat → Int32, z = S_X6_set (h4 3) 8 ti te := ⟨_, rfl⟩
        refine q_callV (h1 := _) (rest := []) (As := [.int ti, .int te]) X (c_X6_set (l := l) hG (ρ := (h4 3)) (n := 8) ti te hT_3 (rfl) (by rw [hT_3]; rfl)) mf_X6_set mv_X6_set cf_X6 rfl (ac_3_0 hT_3) lk_X9_67 rfl ⟨by decide, by decide⟩ ⟨Nat.le_refl _, Nat.le_refl _⟩ rfl (Nat.le_of_ble_eq_true rfl) dX9_setPoint_56 (st2 := []) rfl ?_
        refine q_eq (h2 := va_up h4 3 r5) (by rw [e_r5]) rfl ?_
        refine q_aload_n X 0 dX9_setPoint_59 rfl ?_
        refine q_get (fk := 3) (v := .ref (gA G 3 0)) X cf_X9 (ac_0_0 hT_0) (by decide) fl_X9_32 rfl rfl dX9_setPoint_60 rfl ?_
        refine q_geti (fk := 2) (x := r5 0) X cf_X6 (ac_3_0 hT_3) (by decide) fl_X9_123 rfl rfl dX9_setPoint_63 (va_up_self _ _ _) rfl ?_
        have E : Z = (r5 0, va_up h4 3 r5) := by subst e_r5; subst e_h4; exact hZ.symm.trans ((if_neg c1).trans ((if_neg c2).trans ((if_neg c3).trans rfl)))
        exact q_iret X hret dX9_setPoint_66 (by rw [E]) (by rw [E])
      · skip
        refine q_ldc X kc_X9_122 dX9_setPoint_36 ?_
        have E : Z = ((-100003), h) := by exact hZ.symm.trans ((if_neg c1).trans ((if_neg c2).trans ((if_pos c3).trans rfl)))
        exact q_iret X hret dX9_setPoint_38 (by rw [E]) (by rw [E])
    · skip
      refine q_ldc X kc_X9_77 dX9_setPoint_22 ?_
      have E : Z = ((-100001), h) := by exact hZ.symm.trans ((if_neg c1).trans ((if_pos c2).trans rfl))
      exact q_iret X hret dX9_setPoint_24 (by rw [E]) (by rw [E])
def S_X9_removePoint (h : Hp) (ti : Int32) : Int32 × Hp := if (S_X9_inRange ti 0 400) = 0 then (((-100001), h)) else (if (S_X6_has (h 3) 8 ti) = 0 then (((-100002), h)) else (let h3 : Hp := S_X1_remember h; let r4 : Nat → Int32 := S_X6_remove (h3 3) 8 ti; (S_X6_valueBelow (h3 3) 8 ti, va_up h3 3 r4)))
set_option maxRecDepth 100000 in
set_option maxHeartbeats 4000000 in
theorem c_X9_removePoint {G : Geo} {l : Launch} (hG : GOK G) {h : Hp} (ti : Int32) (hK : KT G) : CM G l yX9_removePoint cX9_removePoint 3 (some .int) 6 166 [.ref (gA G 0 0), .int ti] h ((S_X9_removePoint h ti).2) (some (.int ((S_X9_removePoint h ti).1))) := by
  obtain ⟨Z, hZ⟩ : ∃ Z, S_X9_removePoint h ti = Z := ⟨_, rfl⟩
  rw [hZ]
  refine q_enter hG mf_X9_removePoint (Nat.le_of_ble_eq_true rfl) ?_
  intro p e s m below meth c X hret
  have hT_0 : gT G 0 = 0 := hK 0 (by decide)
  have hT_1 : gT G 1 = 1 := hK 1 (by decide)
  have hT_2 : gT G 2 = 2 := hK 2 (by decide)
  have hT_3 : gT G 3 = 3 := hK 3 (by decide)
  have hT_4 : gT G 4 = 3 := hK 4 (by decide)
  have hT_5 : gT G 5 = 5 := hK 5 (by decide)
  have hT_6 : gT G 6 = 2 := hK 6 (by decide)
  have hT_7 : gT G 7 = 6 := hK 7 (by decide)
  have hT_8 : gT G 8 = 7 := hK 8 (by decide)
  have hT_9 : gT G 9 = 3 := hK 9 (by decide)
  have hT_10 : gT G 10 = 8 := hK 10 (by decide)
  refine q_lv (lv2 := [(0, .ref (gA G 0 0)), (1, .int ti)]) rfl ?_
  refine q_iload_n X 1 dX9_removePoint_0 rfl ?_
  refine q_iconst (v := 0) X dX9_removePoint_1 (by decide) ?_
  refine q_sipush (v := 400) X dX9_removePoint_2 (by decide) ?_
  refine q_callS (h1 := _) (rest := []) (As := [.int ti, .int 0, .int 400]) X (c_X9_inRange (l := l) hG   ti 0 400 ) mf_X9_inRange ms_X9_inRange lk_X9_73 rfl ⟨by decide, by decide⟩ ⟨Nat.le_refl _, Nat.le_refl _⟩ rfl (Nat.le_of_ble_eq_true rfl) dX9_removePoint_5 (st2 := [.int (S_X9_inRange ti 0 400)]) rfl ?_
  refine q_if_ne (tgt := 14) X dX9_removePoint_8 (by decide) (fun c1 => ?_) (fun c1 => ?_)
  · skip
    refine q_aload_n X 0 dX9_removePoint_14 rfl ?_
    refine q_get (fk := 3) (v := .ref (gA G 3 0)) X cf_X9 (ac_0_0 hT_0) (by decide) fl_X9_32 rfl rfl dX9_removePoint_15 rfl ?_
    refine q_iload_n X 1 dX9_removePoint_18 rfl ?_
    refine q_callV (h1 := _) (rest := []) (As := [.int ti]) X (c_X6_has (l := l) hG (ρ := (h 3)) (n := 8) ti hT_3 (rfl) (by rw [hT_3]; rfl)) mf_X6_has mv_X6_has cf_X6 rfl (ac_3_0 hT_3) lk_X9_126 rfl ⟨by decide, by decide⟩ ⟨Nat.le_refl _, Nat.le_refl _⟩ rfl (Nat.le_of_ble_eq_true rfl) dX9_removePoint_19 (st2 := [.int (S_X6_has (h 3) 8 ti)]) rfl ?_
    refine q_if_ne (tgt := 28) X dX9_removePoint_22 (by decide) (fun c2 => ?_) (fun c2 => ?_)
    · skip
      refine q_aload_n X 0 dX9_removePoint_28 rfl ?_
      refine q_get (fk := 6) (v := .ref (gA G 10 0)) X cf_X9 (ac_0_0 hT_0) (by decide) fl_X9_45 rfl rfl dX9_removePoint_29 rfl ?_
      refine q_aload_n X 0 dX9_removePoint_32 rfl ?_
      refine q_get (fk := 0) (v := .ref (gA G 1 0)) X cf_X9 (ac_0_0 hT_0) (by decide) fl_X9_10 rfl rfl dX9_removePoint_33 rfl ?_
      obtain ⟨h3, e_h3⟩ : ∃ z : Hp, z = S_X1_remember h := ⟨_, rfl⟩
      refine q_callV (h1 := _) (rest := []) (As := [.ref (gA G 1 0)]) X (c_X1_remember (l := l) hG    hK) mf_X1_remember mv_X1_remember cf_X1 rfl (ac_8_0 hT_10) lk_X9_78 rfl ⟨by decide, by decide⟩ ⟨Nat.le_refl _, Nat.le_refl _⟩ rfl (Nat.le_of_ble_eq_true rfl) dX9_removePoint_36 (st2 := []) rfl ?_
      refine q_eq (h2 := h3) (by rw [e_h3]) rfl ?_
      refine q_aload_n X 0 dX9_removePoint_39 rfl ?_
      refine q_get (fk := 3) (v := .ref (gA G 3 0)) X cf_X9 (ac_0_0 hT_0) (by decide) fl_X9_32 rfl rfl dX9_removePoint_40 rfl ?_
      refine q_iload_n X 1 dX9_removePoint_43 rfl ?_
      refine q_callV (h1 := _) (rest := []) (As := [.int ti]) X (c_X6_valueBelow (l := l) hG (ρ := (h3 3)) (n := 8) ti hT_3 (rfl) (by rw [hT_3]; rfl)) mf_X6_valueBelow mv_X6_valueBelow cf_X6 rfl (ac_3_0 hT_3) lk_X9_130 rfl ⟨by decide, by decide⟩ ⟨Nat.le_refl _, Nat.le_refl _⟩ rfl (Nat.le_of_ble_eq_true rfl) dX9_removePoint_44 (st2 := [.int (S_X6_valueBelow (h3 3) 8 ti)]) rfl ?_
      refine q_istore_n (lv' := [(2, .int (S_X6_valueBelow (h3 3) 8 ti)), (0, .ref (gA G 0 0)), (1, .int ti)]) X dX9_removePoint_47 (by decide) rfl ?_
      refine q_aload_n X 1 dX9_removePoint_48 rfl ?_
      refine q_get (fk := 3) (v := .ref (gA G 3 0)) X cf_X9 (ac_0_0 hT_0) (by decide) fl_X9_32 rfl rfl dX9_removePoint_49 rfl ?_
      refine q_iload_n X 2 dX9_removePoint_52 rfl ?_
      obtain ⟨r4, e_r4⟩ : ∃ z : Nat → Int32, z = S_X6_remove (h3 3) 8 ti := ⟨_, rfl⟩
      refine q_callV (h1 := _) (rest := []) (As := [.int ti]) X (c_X6_remove (l := l) hG (ρ := (h3 3)) (n := 8) ti hT_3 (rfl) (by rw [hT_3]; rfl)) mf_X6_remove mv_X6_remove cf_X6 rfl (ac_3_0 hT_3) lk_X9_134 rfl ⟨by decide, by decide⟩ ⟨Nat.le_refl _, Nat.le_refl _⟩ rfl (Nat.le_of_ble_eq_true rfl) dX9_removePoint_53 (st2 := []) rfl ?_
      refine q_eq (h2 := va_up h3 3 r4) (by rw [e_r4]) rfl ?_
      refine q_iload_n X 0 dX9_removePoint_56 rfl ?_
      have E : Z = (S_X6_valueBelow (h3 3) 8 ti, va_up h3 3 r4) := by subst e_r4; subst e_h3; exact hZ.symm.trans ((if_neg c1).trans ((if_neg c2).trans rfl))
      exact q_iret X hret dX9_removePoint_57 (by rw [E]) (by rw [E])
    · skip
      refine q_ldc X kc_X9_129 dX9_removePoint_25 ?_
      have E : Z = ((-100002), h) := by exact hZ.symm.trans ((if_neg c1).trans ((if_pos c2).trans rfl))
      exact q_iret X hret dX9_removePoint_27 (by rw [E]) (by rw [E])
  · skip
    refine q_ldc X kc_X9_77 dX9_removePoint_11 ?_
    have E : Z = ((-100001), h) := by exact hZ.symm.trans ((if_pos c1).trans rfl)
    exact q_iret X hret dX9_removePoint_13 (by rw [E]) (by rw [E])
def S_X9_setRow (h : Hp) (te : Int32) (ra : Int32) : Int32 × Hp := if (S_X9_inRange te 0 3000) = 0 then (((-100001), h)) else (if (S_X9_inRange ra (-1) 999) = 0 then (((-100001), h)) else (let m4 : Int32 := if ra = (-1) then (1) else (0); if m4 = 0 then (if (S_X6_hasRoomFor (h 4) 6 te) = 0 then (((-100003), h)) else (let h8 : Hp := S_X1_remember h; let r9 : Nat → Int32 := S_X6_set (h8 4) 6 te ra; (r9 0, va_up h8 4 r9))) else (if (S_X6_has (h 4) 6 te) = 0 then (((-100002), h)) else (let h11 : Hp := S_X1_remember h; let r12 : Nat → Int32 := S_X6_remove (h11 4) 6 te; (r12 0, va_up h11 4 r12)))))
set_option maxRecDepth 100000 in
set_option maxHeartbeats 4000000 in
theorem c_X9_setRow {G : Geo} {l : Launch} (hG : GOK G) {h : Hp} (te : Int32) (ra : Int32) (hK : KT G) : CM G l yX9_setRow cX9_setRow 4 (some .int) 6 166 [.ref (gA G 0 0), .int te, .int ra] h ((S_X9_setRow h te ra).2) (some (.int ((S_X9_setRow h te ra).1))) := by
  obtain ⟨Z, hZ⟩ : ∃ Z, S_X9_setRow h te ra = Z := ⟨_, rfl⟩
  rw [hZ]
  refine q_enter hG mf_X9_setRow (Nat.le_of_ble_eq_true rfl) ?_
  intro p e s m below meth c X hret
  have hT_0 : gT G 0 = 0 := hK 0 (by decide)
  have hT_1 : gT G 1 = 1 := hK 1 (by decide)
  have hT_2 : gT G 2 = 2 := hK 2 (by decide)
  have hT_3 : gT G 3 = 3 := hK 3 (by decide)
  have hT_4 : gT G 4 = 3 := hK 4 (by decide)
  have hT_5 : gT G 5 = 5 := hK 5 (by decide)
  have hT_6 : gT G 6 = 2 := hK 6 (by decide)
  have hT_7 : gT G 7 = 6 := hK 7 (by decide)
  have hT_8 : gT G 8 = 7 := hK 8 (by decide)
  have hT_9 : gT G 9 = 3 := hK 9 (by decide)
  have hT_10 : gT G 10 = 8 := hK 10 (by decide)
  refine q_lv (lv2 := [(0, .ref (gA G 0 0)), (1, .int te), (2, .int ra)]) rfl ?_
  refine q_iload_n X 1 dX9_setRow_0 rfl ?_
  refine q_iconst (v := 0) X dX9_setRow_1 (by decide) ?_
  refine q_sipush (v := 3000) X dX9_setRow_2 (by decide) ?_
  refine q_callS (h1 := _) (rest := []) (As := [.int te, .int 0, .int 3000]) X (c_X9_inRange (l := l) hG   te 0 3000 ) mf_X9_inRange ms_X9_inRange lk_X9_73 rfl ⟨by decide, by decide⟩ ⟨Nat.le_refl _, Nat.le_refl _⟩ rfl (Nat.le_of_ble_eq_true rfl) dX9_setRow_5 (st2 := [.int (S_X9_inRange te 0 3000)]) rfl ?_
  refine q_if_eq (tgt := 22) X dX9_setRow_8 (by decide) (fun c1 => ?_) (fun c1 => ?_)
  · skip
    refine q_ldc X kc_X9_77 dX9_setRow_22 ?_
    have E : Z = ((-100001), h) := by exact hZ.symm.trans ((if_pos c1).trans rfl)
    exact q_iret X hret dX9_setRow_24 (by rw [E]) (by rw [E])
  · skip
    refine q_iload_n X 2 dX9_setRow_11 rfl ?_
    refine q_iconst (v := (-1)) X dX9_setRow_12 (by decide) ?_
    refine q_sipush (v := 999) X dX9_setRow_13 (by decide) ?_
    refine q_callS (h1 := _) (rest := []) (As := [.int ra, .int (-1), .int 999]) X (c_X9_inRange (l := l) hG   ra (-1) 999 ) mf_X9_inRange ms_X9_inRange lk_X9_73 rfl ⟨by decide, by decide⟩ ⟨Nat.le_refl _, Nat.le_refl _⟩ rfl (Nat.le_of_ble_eq_true rfl) dX9_setRow_16 (st2 := [.int (S_X9_inRange ra (-1) 999)]) rfl ?_
    refine q_if_ne (tgt := 25) X dX9_setRow_19 (by decide) (fun c2 => ?_) (fun c2 => ?_)
    · skip
      refine q_iload_n X 2 dX9_setRow_25 rfl ?_
      refine q_iconst (v := (-1)) X dX9_setRow_26 (by decide) ?_
      suffices hJ5 : ∀ (m4 : Int32), m4 = (if ra = (-1) then (1) else (0)) → VV G (AA G) p l e { frames := 6, cells := 0, slots := 0, locals := 166 } s m ([.ref (gA G 0 0), .int te, .int ra] : List Value).toArray below meth c 0 0 (MQ below (QC G Z.2 (some (.int Z.1))) ([.ref (gA G 0 0), .int te, .int ra] : List Value).toArray s 0 0 (AA G)) 4 h 35 [(0, .ref (gA G 0 0)), (1, .int te), (2, .int ra)] [.int m4] by
        refine q_icmp_ne (tgt := 34) X dX9_setRow_27 (by decide) (fun c3 => ?_) (fun c3 => ?_)
        · skip
          refine q_iconst (v := 0) X dX9_setRow_34 (by decide) ?_
          refine q_sub (lv2 := [(0, .ref (gA G 0 0)), (1, .int te), (2, .int ra)]) [0, 1, 2] rfl ?_
          exact hJ5 0 (by exact ((if_neg c3).trans rfl).symm)
        · skip
          refine q_iconst (v := 1) X dX9_setRow_30 (by decide) ?_
          refine q_goto (tgt := 35) X dX9_setRow_31 (by decide) ?_
          refine q_sub (lv2 := [(0, .ref (gA G 0 0)), (1, .int te), (2, .int ra)]) [0, 1, 2] rfl ?_
          exact hJ5 1 (by exact ((if_pos c3).trans rfl).symm)
      intro m4 e_m4
      refine q_istore_n (lv' := [(3, .int m4), (0, .ref (gA G 0 0)), (1, .int te), (2, .int ra)]) X dX9_setRow_35 (by decide) rfl ?_
      refine q_iload_n X 0 dX9_setRow_36 rfl ?_
      refine q_if_eq (tgt := 54) X dX9_setRow_37 (by decide) (fun c6 => ?_) (fun c6 => ?_)
      · skip
        refine q_iload_n X 0 dX9_setRow_54 rfl ?_
        refine q_if_ne (tgt := 72) X dX9_setRow_55 (by decide) (fun q => absurd c6 q) (fun _ => ?_)
        refine q_aload_n X 1 dX9_setRow_58 rfl ?_
        refine q_get (fk := 4) (v := .ref (gA G 4 0)) X cf_X9 (ac_0_0 hT_0) (by decide) fl_X9_36 rfl rfl dX9_setRow_59 rfl ?_
        refine q_iload_n X 2 dX9_setRow_62 rfl ?_
        refine q_callV (h1 := _) (rest := []) (As := [.int te]) X (c_X6_hasRoomFor (l := l) hG (ρ := (h 4)) (n := 6) te hT_4 (rfl) (by rw [hT_4]; rfl)) mf_X6_hasRoomFor mv_X6_hasRoomFor cf_X6 rfl (ac_3_0 hT_4) lk_X9_118 rfl ⟨by decide, by decide⟩ ⟨Nat.le_refl _, Nat.le_refl _⟩ rfl (Nat.le_of_ble_eq_true rfl) dX9_setRow_63 (st2 := [.int (S_X6_hasRoomFor (h 4) 6 te)]) rfl ?_
        refine q_if_ne (tgt := 72) X dX9_setRow_66 (by decide) (fun c7 => ?_) (fun c7 => ?_)
        · skip
          refine q_aload_n X 1 dX9_setRow_72 rfl ?_
          refine q_get (fk := 6) (v := .ref (gA G 10 0)) X cf_X9 (ac_0_0 hT_0) (by decide) fl_X9_45 rfl rfl dX9_setRow_73 rfl ?_
          refine q_aload_n X 1 dX9_setRow_76 rfl ?_
          refine q_get (fk := 0) (v := .ref (gA G 1 0)) X cf_X9 (ac_0_0 hT_0) (by decide) fl_X9_10 rfl rfl dX9_setRow_77 rfl ?_
          obtain ⟨h8, e_h8⟩ : ∃ z : Hp, z = S_X1_remember h := ⟨_, rfl⟩
          refine q_callV (h1 := _) (rest := []) (As := [.ref (gA G 1 0)]) X (c_X1_remember (l := l) hG    hK) mf_X1_remember mv_X1_remember cf_X1 rfl (ac_8_0 hT_10) lk_X9_78 rfl ⟨by decide, by decide⟩ ⟨Nat.le_refl _, Nat.le_refl _⟩ rfl (Nat.le_of_ble_eq_true rfl) dX9_setRow_80 (st2 := []) rfl ?_
          refine q_eq (h2 := h8) (by rw [e_h8]) rfl ?_
          refine q_iload_n X 0 dX9_setRow_83 rfl ?_
          refine q_if_eq (tgt := 98) X dX9_setRow_84 (by decide) (fun _ => ?_) (fun q => absurd c6 q)
          refine q_aload_n X 1 dX9_setRow_98 rfl ?_
          refine q_get (fk := 4) (v := .ref (gA G 4 0)) X cf_X9 (ac_0_0 hT_0) (by decide) fl_X9_36 rfl rfl dX9_setRow_99 rfl ?_
          refine q_iload_n X 2 dX9_setRow_102 rfl ?_
          refine q_iload_n X 3 dX9_setRow_103 rfl ?_
          obtain ⟨r9, e_r9⟩ : ∃ z : Nat → Int32, z = S_X6_set (h8 4) 6 te ra := ⟨_, rfl⟩
          refine q_callV (h1 := _) (rest := []) (As := [.int te, .int ra]) X (c_X6_set (l := l) hG (ρ := (h8 4)) (n := 6) te ra hT_4 (rfl) (by rw [hT_4]; rfl)) mf_X6_set mv_X6_set cf_X6 rfl (ac_3_0 hT_4) lk_X9_67 rfl ⟨by decide, by decide⟩ ⟨Nat.le_refl _, Nat.le_refl _⟩ rfl (Nat.le_of_ble_eq_true rfl) dX9_setRow_104 (st2 := []) rfl ?_
          refine q_eq (h2 := va_up h8 4 r9) (by rw [e_r9]) rfl ?_
          refine q_aload_n X 1 dX9_setRow_107 rfl ?_
          refine q_get (fk := 4) (v := .ref (gA G 4 0)) X cf_X9 (ac_0_0 hT_0) (by decide) fl_X9_36 rfl rfl dX9_setRow_108 rfl ?_
          refine q_geti (fk := 2) (x := r9 0) X cf_X6 (ac_3_0 hT_4) (by decide) fl_X9_123 rfl rfl dX9_setRow_111 (va_up_self _ _ _) rfl ?_
          have E : Z = (r9 0, va_up h8 4 r9) := by subst e_r9; subst e_h8; subst e_m4; exact hZ.symm.trans ((if_neg c1).trans ((if_neg c2).trans ((if_pos c6).trans ((if_neg c7).trans rfl))))
          exact q_iret X hret dX9_setRow_114 (by rw [E]) (by rw [E])
        · skip
          refine q_ldc X kc_X9_122 dX9_setRow_69 ?_
          have E : Z = ((-100003), h) := by subst e_m4; exact hZ.symm.trans ((if_neg c1).trans ((if_neg c2).trans ((if_pos c6).trans ((if_pos c7).trans rfl))))
          exact q_iret X hret dX9_setRow_71 (by rw [E]) (by rw [E])
      · skip
        refine q_aload_n X 1 dX9_setRow_40 rfl ?_
        refine q_get (fk := 4) (v := .ref (gA G 4 0)) X cf_X9 (ac_0_0 hT_0) (by decide) fl_X9_36 rfl rfl dX9_setRow_41 rfl ?_
        refine q_iload_n X 2 dX9_setRow_44 rfl ?_
        refine q_callV (h1 := _) (rest := []) (As := [.int te]) X (c_X6_has (l := l) hG (ρ := (h 4)) (n := 6) te hT_4 (rfl) (by rw [hT_4]; rfl)) mf_X6_has mv_X6_has cf_X6 rfl (ac_3_0 hT_4) lk_X9_126 rfl ⟨by decide, by decide⟩ ⟨Nat.le_refl _, Nat.le_refl _⟩ rfl (Nat.le_of_ble_eq_true rfl) dX9_setRow_45 (st2 := [.int (S_X6_has (h 4) 6 te)]) rfl ?_
        refine q_if_ne (tgt := 54) X dX9_setRow_48 (by decide) (fun c10 => ?_) (fun c10 => ?_)
        · skip
          refine q_iload_n X 0 dX9_setRow_54 rfl ?_
          refine q_if_ne (tgt := 72) X dX9_setRow_55 (by decide) (fun _ => ?_) (fun q => absurd q c6)
          refine q_aload_n X 1 dX9_setRow_72 rfl ?_
          refine q_get (fk := 6) (v := .ref (gA G 10 0)) X cf_X9 (ac_0_0 hT_0) (by decide) fl_X9_45 rfl rfl dX9_setRow_73 rfl ?_
          refine q_aload_n X 1 dX9_setRow_76 rfl ?_
          refine q_get (fk := 0) (v := .ref (gA G 1 0)) X cf_X9 (ac_0_0 hT_0) (by decide) fl_X9_10 rfl rfl dX9_setRow_77 rfl ?_
          obtain ⟨h11, e_h11⟩ : ∃ z : Hp, z = S_X1_remember h := ⟨_, rfl⟩
          refine q_callV (h1 := _) (rest := []) (As := [.ref (gA G 1 0)]) X (c_X1_remember (l := l) hG    hK) mf_X1_remember mv_X1_remember cf_X1 rfl (ac_8_0 hT_10) lk_X9_78 rfl ⟨by decide, by decide⟩ ⟨Nat.le_refl _, Nat.le_refl _⟩ rfl (Nat.le_of_ble_eq_true rfl) dX9_setRow_80 (st2 := []) rfl ?_
          refine q_eq (h2 := h11) (by rw [e_h11]) rfl ?_
          refine q_iload_n X 0 dX9_setRow_83 rfl ?_
          refine q_if_eq (tgt := 98) X dX9_setRow_84 (by decide) (fun q => absurd q c6) (fun _ => ?_)
          refine q_aload_n X 1 dX9_setRow_87 rfl ?_
          refine q_get (fk := 4) (v := .ref (gA G 4 0)) X cf_X9 (ac_0_0 hT_0) (by decide) fl_X9_36 rfl rfl dX9_setRow_88 rfl ?_
          refine q_iload_n X 2 dX9_setRow_91 rfl ?_
          obtain ⟨r12, e_r12⟩ : ∃ z : Nat → Int32, z = S_X6_remove (h11 4) 6 te := ⟨_, rfl⟩
          refine q_callV (h1 := _) (rest := []) (As := [.int te]) X (c_X6_remove (l := l) hG (ρ := (h11 4)) (n := 6) te hT_4 (rfl) (by rw [hT_4]; rfl)) mf_X6_remove mv_X6_remove cf_X6 rfl (ac_3_0 hT_4) lk_X9_134 rfl ⟨by decide, by decide⟩ ⟨Nat.le_refl _, Nat.le_refl _⟩ rfl (Nat.le_of_ble_eq_true rfl) dX9_setRow_92 (st2 := []) rfl ?_
          refine q_eq (h2 := va_up h11 4 r12) (by rw [e_r12]) rfl ?_
          refine q_goto (tgt := 107) X dX9_setRow_95 (by decide) ?_
          refine q_aload_n X 1 dX9_setRow_107 rfl ?_
          refine q_get (fk := 4) (v := .ref (gA G 4 0)) X cf_X9 (ac_0_0 hT_0) (by decide) fl_X9_36 rfl rfl dX9_setRow_108 rfl ?_
          refine q_geti (fk := 2) (x := r12 0) X cf_X6 (ac_3_0 hT_4) (by decide) fl_X9_123 rfl rfl dX9_setRow_111 (va_up_self _ _ _) rfl ?_
          have E : Z = (r12 0, va_up h11 4 r12) := by subst e_r12; subst e_h11; subst e_m4; exact hZ.symm.trans ((if_neg c1).trans ((if_neg c2).trans ((if_neg c6).trans ((if_neg c10).trans rfl))))
          exact q_iret X hret dX9_setRow_114 (by rw [E]) (by rw [E])
        · skip
          refine q_ldc X kc_X9_129 dX9_setRow_51 ?_
          have E : Z = ((-100002), h) := by subst e_m4; exact hZ.symm.trans ((if_neg c1).trans ((if_neg c2).trans ((if_neg c6).trans ((if_pos c10).trans rfl))))
          exact q_iret X hret dX9_setRow_53 (by rw [E]) (by rw [E])
    · skip
      refine q_ldc X kc_X9_77 dX9_setRow_22 ?_
      have E : Z = ((-100001), h) := by exact hZ.symm.trans ((if_neg c1).trans ((if_pos c2).trans rfl))
      exact q_iret X hret dX9_setRow_24 (by rw [E]) (by rw [E])
def S_X9_append (h : Hp) (ch : Int32) : Int32 × Hp := if (S_X9_inRange ch 1 255) = 0 then (((-100001), h)) else (if ((h 7) 0) < 100 then (let r3 : Nat → Int32 := S_X8_add (h 7) ch; (r3 0, va_up h 7 r3)) else (((-100003), h)))
set_option maxRecDepth 100000 in
set_option maxHeartbeats 4000000 in
theorem c_X9_append {G : Geo} {l : Launch} (hG : GOK G) {h : Hp} (ch : Int32) (hK : KT G) : CM G l yX9_append cX9_append 2 (some .int) 2 43 [.ref (gA G 0 0), .int ch] h ((S_X9_append h ch).2) (some (.int ((S_X9_append h ch).1))) := by
  obtain ⟨Z, hZ⟩ : ∃ Z, S_X9_append h ch = Z := ⟨_, rfl⟩
  rw [hZ]
  refine q_enter hG mf_X9_append (Nat.le_of_ble_eq_true rfl) ?_
  intro p e s m below meth c X hret
  have hT_0 : gT G 0 = 0 := hK 0 (by decide)
  have hT_1 : gT G 1 = 1 := hK 1 (by decide)
  have hT_2 : gT G 2 = 2 := hK 2 (by decide)
  have hT_3 : gT G 3 = 3 := hK 3 (by decide)
  have hT_4 : gT G 4 = 3 := hK 4 (by decide)
  have hT_5 : gT G 5 = 5 := hK 5 (by decide)
  have hT_6 : gT G 6 = 2 := hK 6 (by decide)
  have hT_7 : gT G 7 = 6 := hK 7 (by decide)
  have hT_8 : gT G 8 = 7 := hK 8 (by decide)
  have hT_9 : gT G 9 = 3 := hK 9 (by decide)
  have hT_10 : gT G 10 = 8 := hK 10 (by decide)
  refine q_lv (lv2 := [(0, .ref (gA G 0 0)), (1, .int ch)]) rfl ?_
  refine q_iload_n X 1 dX9_append_0 rfl ?_
  refine q_iconst (v := 1) X dX9_append_1 (by decide) ?_
  refine q_sipush (v := 255) X dX9_append_2 (by decide) ?_
  refine q_callS (h1 := _) (rest := []) (As := [.int ch, .int 1, .int 255]) X (c_X9_inRange (l := l) hG   ch 1 255 ) mf_X9_inRange ms_X9_inRange lk_X9_73 rfl ⟨by decide, by decide⟩ ⟨Nat.le_refl _, Nat.le_refl _⟩ rfl (Nat.le_of_ble_eq_true rfl) dX9_append_5 (st2 := [.int (S_X9_inRange ch 1 255)]) rfl ?_
  refine q_if_ne (tgt := 14) X dX9_append_8 (by decide) (fun c1 => ?_) (fun c1 => ?_)
  · skip
    refine q_aload_n X 0 dX9_append_14 rfl ?_
    refine q_get (fk := 7) (v := .ref (gA G 7 0)) X cf_X9 (ac_0_0 hT_0) (by decide) fl_X9_52 rfl rfl dX9_append_15 rfl ?_
    refine q_geti (fk := 1) (x := (h 7) 0) X cf_X8 (ac_6_0 hT_7) (by decide) fl_X9_138 rfl rfl dX9_append_18 (rfl) rfl ?_
    refine q_bipush (v := 100) X dX9_append_21 (by decide) ?_
    refine q_icmp_lt (tgt := 29) X dX9_append_23 (by decide) (fun c2 => ?_) (fun c2 => ?_)
    · skip
      refine q_aload_n X 0 dX9_append_29 rfl ?_
      refine q_get (fk := 7) (v := .ref (gA G 7 0)) X cf_X9 (ac_0_0 hT_0) (by decide) fl_X9_52 rfl rfl dX9_append_30 rfl ?_
      refine q_iload_n X 1 dX9_append_33 rfl ?_
      obtain ⟨r3, e_r3⟩ : ∃ z : Nat → Int32, z = S_X8_add (h 7) ch := ⟨_, rfl⟩
      refine q_callV (h1 := _) (rest := []) (As := [.int ch]) X (c_X8_add (l := l) hG (τ := (h 7))  ch hT_7 (rfl)) mf_X8_add mv_X8_add cf_X8 rfl (ac_6_0 hT_7) lk_X9_141 rfl ⟨by decide, by decide⟩ ⟨Nat.le_refl _, Nat.le_refl _⟩ rfl (Nat.le_of_ble_eq_true rfl) dX9_append_34 (st2 := []) rfl ?_
      refine q_eq (h2 := va_up h 7 r3) (by rw [e_r3]) rfl ?_
      refine q_aload_n X 0 dX9_append_37 rfl ?_
      refine q_get (fk := 7) (v := .ref (gA G 7 0)) X cf_X9 (ac_0_0 hT_0) (by decide) fl_X9_52 rfl rfl dX9_append_38 rfl ?_
      refine q_geti (fk := 1) (x := r3 0) X cf_X8 (ac_6_0 hT_7) (by decide) fl_X9_138 rfl rfl dX9_append_41 (va_up_self _ _ _) rfl ?_
      have E : Z = (r3 0, va_up h 7 r3) := by subst e_r3; exact hZ.symm.trans ((if_neg c1).trans ((if_pos c2).trans rfl))
      exact q_iret X hret dX9_append_44 (by rw [E]) (by rw [E])
    · skip
      refine q_ldc X kc_X9_122 dX9_append_26 ?_
      have E : Z = ((-100003), h) := by exact hZ.symm.trans ((if_neg c1).trans ((if_neg c2).trans rfl))
      exact q_iret X hret dX9_append_28 (by rw [E]) (by rw [E])
  · skip
    refine q_ldc X kc_X9_77 dX9_append_11 ?_
    have E : Z = ((-100001), h) := by exact hZ.symm.trans ((if_pos c1).trans rfl)
    exact q_iret X hret dX9_append_13 (by rw [E]) (by rw [E])
def S_X9_load (h : Hp) : Int32 × Hp := let r1 : Nat → Int32 := (S_X3_errorPosition (h 8) (h 9) (h 7)).2.1; let r2 : Nat → Int32 := (S_X3_errorPosition (h 8) (h 9) (h 7)).2.2; if ((S_X3_errorPosition (h 8) (h 9) (h 7)).1) = (-1) then (let h4 : Hp := S_X1_remember (va_up (va_up h 8 r1) 9 r2); let r5 : Nat → Int32 := S_X6_copyFrom (h4 3) (h4 9) 8; let r6 : Nat → Int32 := va_up (h4 7) 0 0; (r5 0, va_up (va_up h4 3 r5) 7 r6)) else (((-200000) - ((S_X3_errorPosition (h 8) (h 9) (h 7)).1), va_up (va_up h 8 r1) 9 r2))
set_option maxRecDepth 100000 in
set_option maxHeartbeats 4000000 in
theorem c_X9_load {G : Geo} {l : Launch} (hG : GOK G) {h : Hp}  (hK : KT G) : CM G l yX9_load cX9_load 2 (some .int) 6 166 [.ref (gA G 0 0)] h ((S_X9_load h).2) (some (.int ((S_X9_load h).1))) := by
  obtain ⟨Z, hZ⟩ : ∃ Z, S_X9_load h = Z := ⟨_, rfl⟩
  rw [hZ]
  refine q_enter hG mf_X9_load (Nat.le_of_ble_eq_true rfl) ?_
  intro p e s m below meth c X hret
  have hT_0 : gT G 0 = 0 := hK 0 (by decide)
  have hT_1 : gT G 1 = 1 := hK 1 (by decide)
  have hT_2 : gT G 2 = 2 := hK 2 (by decide)
  have hT_3 : gT G 3 = 3 := hK 3 (by decide)
  have hT_4 : gT G 4 = 3 := hK 4 (by decide)
  have hT_5 : gT G 5 = 5 := hK 5 (by decide)
  have hT_6 : gT G 6 = 2 := hK 6 (by decide)
  have hT_7 : gT G 7 = 6 := hK 7 (by decide)
  have hT_8 : gT G 8 = 7 := hK 8 (by decide)
  have hT_9 : gT G 9 = 3 := hK 9 (by decide)
  have hT_10 : gT G 10 = 8 := hK 10 (by decide)
  refine q_lv (lv2 := [(0, .ref (gA G 0 0))]) rfl ?_
  refine q_aload_n X 0 dX9_load_0 rfl ?_
  refine q_get (fk := 8) (v := .ref (gA G 8 0)) X cf_X9 (ac_0_0 hT_0) (by decide) fl_X9_59 rfl rfl dX9_load_1 rfl ?_
  refine q_aload_n X 0 dX9_load_4 rfl ?_
  refine q_get (fk := 7) (v := .ref (gA G 7 0)) X cf_X9 (ac_0_0 hT_0) (by decide) fl_X9_52 rfl rfl dX9_load_5 rfl ?_
  obtain ⟨r1, e_r1⟩ : ∃ z : Nat → Int32, z = (S_X3_errorPosition (h 8) (h 9) (h 7)).2.1 := ⟨_, rfl⟩
  obtain ⟨r2, e_r2⟩ : ∃ z : Nat → Int32, z = (S_X3_errorPosition (h 8) (h 9) (h 7)).2.2 := ⟨_, rfl⟩
  refine q_callV (h1 := _) (rest := []) (As := [.ref (gA G 7 0)]) X (c_X3_errorPosition (l := l) hG (ρ := (h 8)) (π := (h 9)) (τ := (h 7))   hK (rfl) (rfl) (rfl)) mf_X3_errorPosition mv_X3_errorPosition cf_X3 rfl (ac_7_0 hT_8) lk_X9_144 rfl ⟨by decide, by decide⟩ ⟨Nat.le_refl _, Nat.le_refl _⟩ rfl (Nat.le_of_ble_eq_true rfl) dX9_load_8 (st2 := [.int ((S_X3_errorPosition (h 8) (h 9) (h 7)).1)]) rfl ?_
  refine q_eq (h2 := va_up (va_up h 8 r1) 9 r2) (by rw [e_r1, e_r2]) rfl ?_
  refine q_istore_n (lv' := [(1, .int ((S_X3_errorPosition (h 8) (h 9) (h 7)).1)), (0, .ref (gA G 0 0))]) X dX9_load_11 (by decide) rfl ?_
  refine q_iload_n X 0 dX9_load_12 rfl ?_
  refine q_iconst (v := (-1)) X dX9_load_13 (by decide) ?_
  refine q_icmp_eq (tgt := 22) X dX9_load_14 (by decide) (fun c3 => ?_) (fun c3 => ?_)
  · skip
    refine q_aload_n X 1 dX9_load_22 rfl ?_
    refine q_get (fk := 6) (v := .ref (gA G 10 0)) X cf_X9 (ac_0_0 hT_0) (by decide) fl_X9_45 rfl rfl dX9_load_23 rfl ?_
    refine q_aload_n X 1 dX9_load_26 rfl ?_
    refine q_get (fk := 0) (v := .ref (gA G 1 0)) X cf_X9 (ac_0_0 hT_0) (by decide) fl_X9_10 rfl rfl dX9_load_27 rfl ?_
    obtain ⟨h4, e_h4⟩ : ∃ z : Hp, z = S_X1_remember (va_up (va_up h 8 r1) 9 r2) := ⟨_, rfl⟩
    refine q_callV (h1 := _) (rest := []) (As := [.ref (gA G 1 0)]) X (c_X1_remember (l := l) hG    hK) mf_X1_remember mv_X1_remember cf_X1 rfl (ac_8_0 hT_10) lk_X9_78 rfl ⟨by decide, by decide⟩ ⟨Nat.le_refl _, Nat.le_refl _⟩ rfl (Nat.le_of_ble_eq_true rfl) dX9_load_30 (st2 := []) rfl ?_
    refine q_eq (h2 := h4) (by rw [e_h4]) rfl ?_
    refine q_aload_n X 1 dX9_load_33 rfl ?_
    refine q_get (fk := 3) (v := .ref (gA G 3 0)) X cf_X9 (ac_0_0 hT_0) (by decide) fl_X9_32 rfl rfl dX9_load_34 rfl ?_
    refine q_aload_n X 1 dX9_load_37 rfl ?_
    refine q_get (fk := 8) (v := .ref (gA G 8 0)) X cf_X9 (ac_0_0 hT_0) (by decide) fl_X9_59 rfl rfl dX9_load_38 rfl ?_
    refine q_get (fk := 0) (v := .ref (gA G 9 0)) X cf_X3 (ac_7_0 hT_8) (by decide) fl_X9_149 rfl rfl dX9_load_41 rfl ?_
    obtain ⟨r5, e_r5⟩ : ∃ z : Nat → Int32, z = S_X6_copyFrom (h4 3) (h4 9) 8 := ⟨_, rfl⟩
    refine q_callV (h1 := _) (rest := []) (As := [.ref (gA G 9 0)]) X (c_X6_copyFrom (l := l) hG (ρ := (h4 3)) (ρ2 := (h4 9)) (n := 8)  hT_3 hT_9 (rfl) (rfl) (by rw [hT_3]; rfl) (by rw [hT_9]; rfl) (by decide)) mf_X6_copyFrom mv_X6_copyFrom cf_X6 rfl (ac_3_0 hT_3) lk_X9_152 rfl ⟨by decide, by decide⟩ ⟨Nat.le_refl _, Nat.le_refl _⟩ rfl (Nat.le_of_ble_eq_true rfl) dX9_load_44 (st2 := []) rfl ?_
    refine q_eq (h2 := va_up h4 3 r5) (by rw [e_r5]) rfl ?_
    refine q_aload_n X 1 dX9_load_47 rfl ?_
    refine q_get (fk := 7) (v := .ref (gA G 7 0)) X cf_X9 (ac_0_0 hT_0) (by decide) fl_X9_52 rfl rfl dX9_load_48 rfl ?_
    refine q_iconst (v := 0) X dX9_load_51 (by decide) ?_
    obtain ⟨r6, e_r6⟩ : ∃ z : Nat → Int32, z = va_up (h4 7) 0 0 := ⟨_, rfl⟩
    refine q_put (fk := 1) (h2 := va_up (va_up h4 3 r5) 7 r6) X cf_X8 (ac_6_0 hT_7) (by decide) fl_X9_138 rfl rfl (by rw [hT_7]; rfl) rfl rfl rfl dX9_load_52 ((va_up_ne _ _ (by decide)).trans (rfl)) (by rw [e_r6]) ?_
    refine q_aload_n X 1 dX9_load_55 rfl ?_
    refine q_get (fk := 3) (v := .ref (gA G 3 0)) X cf_X9 (ac_0_0 hT_0) (by decide) fl_X9_32 rfl rfl dX9_load_56 rfl ?_
    refine q_geti (fk := 2) (x := r5 0) X cf_X6 (ac_3_0 hT_3) (by decide) fl_X9_123 rfl rfl dX9_load_59 ((va_up_ne _ _ (by decide)).trans (va_up_self _ _ _)) rfl ?_
    have E : Z = (r5 0, va_up (va_up h4 3 r5) 7 r6) := by subst e_r6; subst e_r5; subst e_h4; subst e_r2; subst e_r1; exact hZ.symm.trans ((if_pos c3).trans rfl)
    exact q_iret X hret dX9_load_62 (by rw [E]) (by rw [E])
  · skip
    refine q_ldc X kc_X9_148 dX9_load_17 ?_
    refine q_iload_n X 0 dX9_load_19 rfl ?_
    refine q_isub X dX9_load_20 ?_
    have E : Z = ((-200000) - ((S_X3_errorPosition (h 8) (h 9) (h 7)).1), va_up (va_up h 8 r1) 9 r2) := by subst e_r2; subst e_r1; exact hZ.symm.trans ((if_neg c3).trans rfl)
    exact q_iret X hret dX9_load_21 (by rw [E]) (by rw [E])
def S_X9_charge (h : Hp) (ma : Int32) : Int32 × Hp := if (S_X9_inRange ma 100 1000) = 0 then (((-100001), h)) else (if ((h 2) 1) = 0 then (let h3 : Hp := S_X1_remember h; let r4 : Nat → Int32 := S_X4_startBatch (h3 2) ma; (r4 2, va_up h3 2 r4)) else (((-100002), h)))
set_option maxRecDepth 100000 in
set_option maxHeartbeats 4000000 in
theorem c_X9_charge {G : Geo} {l : Launch} (hG : GOK G) {h : Hp} (ma : Int32) (hK : KT G) : CM G l yX9_charge cX9_charge 2 (some .int) 6 166 [.ref (gA G 0 0), .int ma] h ((S_X9_charge h ma).2) (some (.int ((S_X9_charge h ma).1))) := by
  obtain ⟨Z, hZ⟩ : ∃ Z, S_X9_charge h ma = Z := ⟨_, rfl⟩
  rw [hZ]
  refine q_enter hG mf_X9_charge (Nat.le_of_ble_eq_true rfl) ?_
  intro p e s m below meth c X hret
  have hT_0 : gT G 0 = 0 := hK 0 (by decide)
  have hT_1 : gT G 1 = 1 := hK 1 (by decide)
  have hT_2 : gT G 2 = 2 := hK 2 (by decide)
  have hT_3 : gT G 3 = 3 := hK 3 (by decide)
  have hT_4 : gT G 4 = 3 := hK 4 (by decide)
  have hT_5 : gT G 5 = 5 := hK 5 (by decide)
  have hT_6 : gT G 6 = 2 := hK 6 (by decide)
  have hT_7 : gT G 7 = 6 := hK 7 (by decide)
  have hT_8 : gT G 8 = 7 := hK 8 (by decide)
  have hT_9 : gT G 9 = 3 := hK 9 (by decide)
  have hT_10 : gT G 10 = 8 := hK 10 (by decide)
  refine q_lv (lv2 := [(0, .ref (gA G 0 0)), (1, .int ma)]) rfl ?_
  refine q_iload_n X 1 dX9_charge_0 rfl ?_
  refine q_bipush (v := 100) X dX9_charge_1 (by decide) ?_
  refine q_sipush (v := 1000) X dX9_charge_3 (by decide) ?_
  refine q_callS (h1 := _) (rest := []) (As := [.int ma, .int 100, .int 1000]) X (c_X9_inRange (l := l) hG   ma 100 1000 ) mf_X9_inRange ms_X9_inRange lk_X9_73 rfl ⟨by decide, by decide⟩ ⟨Nat.le_refl _, Nat.le_refl _⟩ rfl (Nat.le_of_ble_eq_true rfl) dX9_charge_6 (st2 := [.int (S_X9_inRange ma 100 1000)]) rfl ?_
  refine q_if_ne (tgt := 15) X dX9_charge_9 (by decide) (fun c1 => ?_) (fun c1 => ?_)
  · skip
    refine q_aload_n X 0 dX9_charge_15 rfl ?_
    refine q_get (fk := 1) (v := .ref (gA G 2 0)) X cf_X9 (ac_0_0 hT_0) (by decide) fl_X9_20 rfl rfl dX9_charge_16 rfl ?_
    refine q_geti (fk := 3) (x := (h 2) 1) X cf_X4 (ac_2_0 hT_2) (by decide) fl_X9_156 rfl rfl dX9_charge_19 (rfl) rfl ?_
    refine q_if_eq (tgt := 28) X dX9_charge_22 (by decide) (fun c2 => ?_) (fun c2 => ?_)
    · skip
      refine q_aload_n X 0 dX9_charge_28 rfl ?_
      refine q_get (fk := 6) (v := .ref (gA G 10 0)) X cf_X9 (ac_0_0 hT_0) (by decide) fl_X9_45 rfl rfl dX9_charge_29 rfl ?_
      refine q_aload_n X 0 dX9_charge_32 rfl ?_
      refine q_get (fk := 0) (v := .ref (gA G 1 0)) X cf_X9 (ac_0_0 hT_0) (by decide) fl_X9_10 rfl rfl dX9_charge_33 rfl ?_
      obtain ⟨h3, e_h3⟩ : ∃ z : Hp, z = S_X1_remember h := ⟨_, rfl⟩
      refine q_callV (h1 := _) (rest := []) (As := [.ref (gA G 1 0)]) X (c_X1_remember (l := l) hG    hK) mf_X1_remember mv_X1_remember cf_X1 rfl (ac_8_0 hT_10) lk_X9_78 rfl ⟨by decide, by decide⟩ ⟨Nat.le_refl _, Nat.le_refl _⟩ rfl (Nat.le_of_ble_eq_true rfl) dX9_charge_36 (st2 := []) rfl ?_
      refine q_eq (h2 := h3) (by rw [e_h3]) rfl ?_
      refine q_aload_n X 0 dX9_charge_39 rfl ?_
      refine q_get (fk := 1) (v := .ref (gA G 2 0)) X cf_X9 (ac_0_0 hT_0) (by decide) fl_X9_20 rfl rfl dX9_charge_40 rfl ?_
      refine q_iload_n X 1 dX9_charge_43 rfl ?_
      obtain ⟨r4, e_r4⟩ : ∃ z : Nat → Int32, z = S_X4_startBatch (h3 2) ma := ⟨_, rfl⟩
      refine q_callV (h1 := _) (rest := []) (As := [.int ma]) X (c_X4_startBatch (l := l) hG (ρ := (h3 2))  ma hT_2 (rfl)) mf_X4_startBatch mv_X4_startBatch cf_X4 rfl (ac_2_0 hT_2) lk_X9_159 rfl ⟨by decide, by decide⟩ ⟨Nat.le_refl _, Nat.le_refl _⟩ rfl (Nat.le_of_ble_eq_true rfl) dX9_charge_44 (st2 := []) rfl ?_
      refine q_eq (h2 := va_up h3 2 r4) (by rw [e_r4]) rfl ?_
      refine q_aload_n X 0 dX9_charge_47 rfl ?_
      refine q_get (fk := 1) (v := .ref (gA G 2 0)) X cf_X9 (ac_0_0 hT_0) (by decide) fl_X9_20 rfl rfl dX9_charge_48 rfl ?_
      refine q_geti (fk := 4) (x := r4 2) X cf_X4 (ac_2_0 hT_2) (by decide) fl_X9_162 rfl rfl dX9_charge_51 (va_up_self _ _ _) rfl ?_
      have E : Z = (r4 2, va_up h3 2 r4) := by subst e_r4; subst e_h3; exact hZ.symm.trans ((if_neg c1).trans ((if_pos c2).trans rfl))
      exact q_iret X hret dX9_charge_54 (by rw [E]) (by rw [E])
    · skip
      refine q_ldc X kc_X9_129 dX9_charge_25 ?_
      have E : Z = ((-100002), h) := by exact hZ.symm.trans ((if_neg c1).trans ((if_neg c2).trans rfl))
      exact q_iret X hret dX9_charge_27 (by rw [E]) (by rw [E])
  · skip
    refine q_ldc X kc_X9_77 dX9_charge_12 ?_
    have E : Z = ((-100001), h) := by exact hZ.symm.trans ((if_pos c1).trans rfl)
    exact q_iret X hret dX9_charge_14 (by rw [E]) (by rw [E])
def S_X9_drop (h : Hp) : Int32 × Hp := if ((h 2) 1) = 1 then (let h2 : Hp := S_X1_remember h; let r3 : Nat → Int32 := va_up (h2 2) 1 2; let r4 : Nat → Int32 := S_X2_enter (h2 5) r3; let r5 : Nat → Int32 := va_up r3 5 (S_J9_min_7cf53 ((r3 5) + (r3 6)) 60); (r5 19, va_up (va_up h2 5 r4) 2 r5)) else (((-100002), h))
set_option maxRecDepth 100000 in
set_option maxHeartbeats 4000000 in
theorem c_X9_drop {G : Geo} {l : Launch} (hG : GOK G) {h : Hp}  (hK : KT G) : CM G l yX9_drop cX9_drop 1 (some .int) 6 166 [.ref (gA G 0 0)] h ((S_X9_drop h).2) (some (.int ((S_X9_drop h).1))) := by
  obtain ⟨Z, hZ⟩ : ∃ Z, S_X9_drop h = Z := ⟨_, rfl⟩
  rw [hZ]
  refine q_enter hG mf_X9_drop (Nat.le_of_ble_eq_true rfl) ?_
  intro p e s m below meth c X hret
  have hT_0 : gT G 0 = 0 := hK 0 (by decide)
  have hT_1 : gT G 1 = 1 := hK 1 (by decide)
  have hT_2 : gT G 2 = 2 := hK 2 (by decide)
  have hT_3 : gT G 3 = 3 := hK 3 (by decide)
  have hT_4 : gT G 4 = 3 := hK 4 (by decide)
  have hT_5 : gT G 5 = 5 := hK 5 (by decide)
  have hT_6 : gT G 6 = 2 := hK 6 (by decide)
  have hT_7 : gT G 7 = 6 := hK 7 (by decide)
  have hT_8 : gT G 8 = 7 := hK 8 (by decide)
  have hT_9 : gT G 9 = 3 := hK 9 (by decide)
  have hT_10 : gT G 10 = 8 := hK 10 (by decide)
  refine q_lv (lv2 := [(0, .ref (gA G 0 0))]) rfl ?_
  refine q_aload_n X 0 dX9_drop_0 rfl ?_
  refine q_get (fk := 1) (v := .ref (gA G 2 0)) X cf_X9 (ac_0_0 hT_0) (by decide) fl_X9_20 rfl rfl dX9_drop_1 rfl ?_
  refine q_geti (fk := 3) (x := (h 2) 1) X cf_X4 (ac_2_0 hT_2) (by decide) fl_X9_156 rfl rfl dX9_drop_4 (rfl) rfl ?_
  refine q_iconst (v := 1) X dX9_drop_7 (by decide) ?_
  refine q_icmp_eq (tgt := 14) X dX9_drop_8 (by decide) (fun c1 => ?_) (fun c1 => ?_)
  · skip
    refine q_aload_n X 0 dX9_drop_14 rfl ?_
    refine q_get (fk := 6) (v := .ref (gA G 10 0)) X cf_X9 (ac_0_0 hT_0) (by decide) fl_X9_45 rfl rfl dX9_drop_15 rfl ?_
    refine q_aload_n X 0 dX9_drop_18 rfl ?_
    refine q_get (fk := 0) (v := .ref (gA G 1 0)) X cf_X9 (ac_0_0 hT_0) (by decide) fl_X9_10 rfl rfl dX9_drop_19 rfl ?_
    obtain ⟨h2, e_h2⟩ : ∃ z : Hp, z = S_X1_remember h := ⟨_, rfl⟩
    refine q_callV (h1 := _) (rest := []) (As := [.ref (gA G 1 0)]) X (c_X1_remember (l := l) hG    hK) mf_X1_remember mv_X1_remember cf_X1 rfl (ac_8_0 hT_10) lk_X9_78 rfl ⟨by decide, by decide⟩ ⟨Nat.le_refl _, Nat.le_refl _⟩ rfl (Nat.le_of_ble_eq_true rfl) dX9_drop_22 (st2 := []) rfl ?_
    refine q_eq (h2 := h2) (by rw [e_h2]) rfl ?_
    refine q_aload_n X 0 dX9_drop_25 rfl ?_
    refine q_get (fk := 1) (v := .ref (gA G 2 0)) X cf_X9 (ac_0_0 hT_0) (by decide) fl_X9_20 rfl rfl dX9_drop_26 rfl ?_
    refine q_iconst (v := 2) X dX9_drop_29 (by decide) ?_
    obtain ⟨r3, e_r3⟩ : ∃ z : Nat → Int32, z = va_up (h2 2) 1 2 := ⟨_, rfl⟩
    refine q_put (fk := 3) (h2 := va_up h2 2 r3) X cf_X4 (ac_2_0 hT_2) (by decide) fl_X9_156 rfl rfl (by rw [hT_2]; rfl) rfl rfl rfl dX9_drop_30 (rfl) (by rw [e_r3]) ?_
    refine q_aload_n X 0 dX9_drop_33 rfl ?_
    refine q_get (fk := 5) (v := .ref (gA G 5 0)) X cf_X9 (ac_0_0 hT_0) (by decide) fl_X9_41 rfl rfl dX9_drop_34 rfl ?_
    refine q_aload_n X 0 dX9_drop_37 rfl ?_
    refine q_get (fk := 1) (v := .ref (gA G 2 0)) X cf_X9 (ac_0_0 hT_0) (by decide) fl_X9_20 rfl rfl dX9_drop_38 rfl ?_
    refine q_get (fk := 1) (v := .ref (gA G 2 2)) X cf_X4 (ac_2_0 hT_2) (by decide) fl_X9_165 rfl rfl dX9_drop_41 rfl ?_
    obtain ⟨r4, e_r4⟩ : ∃ z : Nat → Int32, z = S_X2_enter (h2 5) r3 := ⟨_, rfl⟩
    refine q_callV (h1 := _) (rest := []) (As := [.ref (gA G 2 2)]) X (c_X2_enter (l := l) hG (ρ := (h2 5)) (ρ2 := r3)   hT_5 hT_2 ((va_up_ne _ _ (by decide)).trans (rfl)) (va_up_self _ _ _)) mf_X2_enter mv_X2_enter cf_X2 rfl (ac_5_0 hT_5) lk_X9_169 rfl ⟨by decide, by decide⟩ ⟨Nat.le_refl _, Nat.le_refl _⟩ rfl (Nat.le_of_ble_eq_true rfl) dX9_drop_44 (st2 := []) rfl ?_
    refine q_eq (h2 := va_up (va_up h2 2 r3) 5 r4) (by rw [e_r4]) rfl ?_
    refine q_aload_n X 0 dX9_drop_47 rfl ?_
    refine q_get (fk := 2) (v := .ref (gA G 2 1)) X cf_X9 (ac_0_0 hT_0) (by decide) fl_X9_27 rfl rfl dX9_drop_48 rfl ?_
    refine q_aload_n X 0 dX9_drop_51 rfl ?_
    refine q_get (fk := 2) (v := .ref (gA G 2 1)) X cf_X9 (ac_0_0 hT_0) (by decide) fl_X9_27 rfl rfl dX9_drop_52 rfl ?_
    refine q_geti (fk := 5) (x := r3 5) X cf_X5 (ac_2_1 hT_2) (by decide) fl_X9_103 rfl rfl dX9_drop_55 ((va_up_ne _ _ (by decide)).trans (va_up_self _ _ _)) rfl ?_
    refine q_aload_n X 0 dX9_drop_58 rfl ?_
    refine q_get (fk := 2) (v := .ref (gA G 2 1)) X cf_X9 (ac_0_0 hT_0) (by decide) fl_X9_27 rfl rfl dX9_drop_59 rfl ?_
    refine q_geti (fk := 6) (x := r3 6) X cf_X5 (ac_2_1 hT_2) (by decide) fl_X9_106 rfl rfl dX9_drop_62 ((va_up_ne _ _ (by decide)).trans (va_up_self _ _ _)) rfl ?_
    refine q_iadd X dX9_drop_65 ?_
    refine q_bipush (v := 60) X dX9_drop_66 (by decide) ?_
    refine q_callS (h1 := _) (rest := [.ref (gA G 2 1)]) (As := [.int ((r3 5) + (r3 6)), .int 60]) X (c_J9_min_7cf53 (l := l) hG   ((r3 5) + (r3 6)) 60 ) mf_J9_min_7cf53 ms_J9_min_7cf53 lk_X9_175 rfl ⟨by decide, by decide⟩ ⟨Nat.le_refl _, Nat.le_refl _⟩ rfl (Nat.le_of_ble_eq_true rfl) dX9_drop_68 (st2 := [.int (S_J9_min_7cf53 ((r3 5) + (r3 6)) 60), .ref (gA G 2 1)]) rfl ?_
    obtain ⟨r5, e_r5⟩ : ∃ z : Nat → Int32, z = va_up r3 5 (S_J9_min_7cf53 ((r3 5) + (r3 6)) 60) := ⟨_, rfl⟩
    refine q_put (fk := 5) (h2 := va_up (va_up h2 5 r4) 2 r5) X cf_X5 (ac_2_1 hT_2) (by decide) fl_X9_103 rfl rfl (by rw [hT_2]; rfl) rfl rfl rfl dX9_drop_71 ((va_up_ne _ _ (by decide)).trans (va_up_self _ _ _)) (by rw [← e_r5]; funext x; simp only [va_up]; (repeat' split) <;> first | rfl | omega) ?_
    refine q_aload_n X 0 dX9_drop_74 rfl ?_
    refine q_get (fk := 1) (v := .ref (gA G 2 0)) X cf_X9 (ac_0_0 hT_0) (by decide) fl_X9_20 rfl rfl dX9_drop_75 rfl ?_
    refine q_get (fk := 1) (v := .ref (gA G 2 2)) X cf_X4 (ac_2_0 hT_2) (by decide) fl_X9_165 rfl rfl dX9_drop_78 rfl ?_
    refine q_geti (fk := 3) (x := r5 19) X cf_X0 (ac_2_2 hT_2) (by decide) fl_X9_181 rfl rfl dX9_drop_81 (va_up_self _ _ _) rfl ?_
    have E : Z = (r5 19, va_up (va_up h2 5 r4) 2 r5) := by subst e_r5; subst e_r4; subst e_r3; subst e_h2; exact hZ.symm.trans ((if_pos c1).trans rfl)
    exact q_iret X hret dX9_drop_84 (by rw [E]) (by rw [E])
  · skip
    refine q_ldc X kc_X9_129 dX9_drop_11 ?_
    have E : Z = ((-100002), h) := by exact hZ.symm.trans ((if_neg c1).trans rfl)
    exact q_iret X hret dX9_drop_13 (by rw [E]) (by rw [E])
def S_X9_takeAway (h : Hp) : Int32 × Hp := if ((h 2) 1) = 2 then (if (((h 2) 16) - ((h 2) 3)) ≤ 150 then (let h3 : Hp := S_X1_remember h; let r4 : Nat → Int32 := va_up (h3 2) 1 0; (r4 16, va_up h3 2 r4)) else (((-100002), h))) else (((-100002), h))
set_option maxRecDepth 100000 in
set_option maxHeartbeats 4000000 in
theorem c_X9_takeAway {G : Geo} {l : Launch} (hG : GOK G) {h : Hp}  (hK : KT G) : CM G l yX9_takeAway cX9_takeAway 1 (some .int) 6 166 [.ref (gA G 0 0)] h ((S_X9_takeAway h).2) (some (.int ((S_X9_takeAway h).1))) := by
  obtain ⟨Z, hZ⟩ : ∃ Z, S_X9_takeAway h = Z := ⟨_, rfl⟩
  rw [hZ]
  refine q_enter hG mf_X9_takeAway (Nat.le_of_ble_eq_true rfl) ?_
  intro p e s m below meth c X hret
  have hT_0 : gT G 0 = 0 := hK 0 (by decide)
  have hT_1 : gT G 1 = 1 := hK 1 (by decide)
  have hT_2 : gT G 2 = 2 := hK 2 (by decide)
  have hT_3 : gT G 3 = 3 := hK 3 (by decide)
  have hT_4 : gT G 4 = 3 := hK 4 (by decide)
  have hT_5 : gT G 5 = 5 := hK 5 (by decide)
  have hT_6 : gT G 6 = 2 := hK 6 (by decide)
  have hT_7 : gT G 7 = 6 := hK 7 (by decide)
  have hT_8 : gT G 8 = 7 := hK 8 (by decide)
  have hT_9 : gT G 9 = 3 := hK 9 (by decide)
  have hT_10 : gT G 10 = 8 := hK 10 (by decide)
  refine q_lv (lv2 := [(0, .ref (gA G 0 0))]) rfl ?_
  refine q_aload_n X 0 dX9_takeAway_0 rfl ?_
  refine q_get (fk := 1) (v := .ref (gA G 2 0)) X cf_X9 (ac_0_0 hT_0) (by decide) fl_X9_20 rfl rfl dX9_takeAway_1 rfl ?_
  refine q_geti (fk := 3) (x := (h 2) 1) X cf_X4 (ac_2_0 hT_2) (by decide) fl_X9_156 rfl rfl dX9_takeAway_4 (rfl) rfl ?_
  refine q_iconst (v := 2) X dX9_takeAway_7 (by decide) ?_
  refine q_icmp_ne (tgt := 35) X dX9_takeAway_8 (by decide) (fun c1 => ?_) (fun c1 => ?_)
  · skip
    refine q_ldc X kc_X9_129 dX9_takeAway_35 ?_
    have E : Z = ((-100002), h) := by exact hZ.symm.trans ((if_neg c1).trans rfl)
    exact q_iret X hret dX9_takeAway_37 (by rw [E]) (by rw [E])
  · skip
    refine q_aload_n X 0 dX9_takeAway_11 rfl ?_
    refine q_get (fk := 1) (v := .ref (gA G 2 0)) X cf_X9 (ac_0_0 hT_0) (by decide) fl_X9_20 rfl rfl dX9_takeAway_12 rfl ?_
    refine q_get (fk := 1) (v := .ref (gA G 2 2)) X cf_X4 (ac_2_0 hT_2) (by decide) fl_X9_165 rfl rfl dX9_takeAway_15 rfl ?_
    refine q_geti (fk := 0) (x := (h 2) 16) X cf_X0 (ac_2_2 hT_2) (by decide) fl_X9_186 rfl rfl dX9_takeAway_18 (rfl) rfl ?_
    refine q_aload_n X 0 dX9_takeAway_21 rfl ?_
    refine q_get (fk := 2) (v := .ref (gA G 2 1)) X cf_X9 (ac_0_0 hT_0) (by decide) fl_X9_27 rfl rfl dX9_takeAway_22 rfl ?_
    refine q_geti (fk := 0) (x := (h 2) 3) X cf_X5 (ac_2_1 hT_2) (by decide) fl_X9_82 rfl rfl dX9_takeAway_25 (rfl) rfl ?_
    refine q_isub X dX9_takeAway_28 ?_
    refine q_sipush (v := 150) X dX9_takeAway_29 (by decide) ?_
    refine q_icmp_le (tgt := 38) X dX9_takeAway_32 (by decide) (fun c2 => ?_) (fun c2 => ?_)
    · skip
      refine q_aload_n X 0 dX9_takeAway_38 rfl ?_
      refine q_get (fk := 6) (v := .ref (gA G 10 0)) X cf_X9 (ac_0_0 hT_0) (by decide) fl_X9_45 rfl rfl dX9_takeAway_39 rfl ?_
      refine q_aload_n X 0 dX9_takeAway_42 rfl ?_
      refine q_get (fk := 0) (v := .ref (gA G 1 0)) X cf_X9 (ac_0_0 hT_0) (by decide) fl_X9_10 rfl rfl dX9_takeAway_43 rfl ?_
      obtain ⟨h3, e_h3⟩ : ∃ z : Hp, z = S_X1_remember h := ⟨_, rfl⟩
      refine q_callV (h1 := _) (rest := []) (As := [.ref (gA G 1 0)]) X (c_X1_remember (l := l) hG    hK) mf_X1_remember mv_X1_remember cf_X1 rfl (ac_8_0 hT_10) lk_X9_78 rfl ⟨by decide, by decide⟩ ⟨Nat.le_refl _, Nat.le_refl _⟩ rfl (Nat.le_of_ble_eq_true rfl) dX9_takeAway_46 (st2 := []) rfl ?_
      refine q_eq (h2 := h3) (by rw [e_h3]) rfl ?_
      refine q_aload_n X 0 dX9_takeAway_49 rfl ?_
      refine q_get (fk := 1) (v := .ref (gA G 2 0)) X cf_X9 (ac_0_0 hT_0) (by decide) fl_X9_20 rfl rfl dX9_takeAway_50 rfl ?_
      refine q_iconst (v := 0) X dX9_takeAway_53 (by decide) ?_
      obtain ⟨r4, e_r4⟩ : ∃ z : Nat → Int32, z = va_up (h3 2) 1 0 := ⟨_, rfl⟩
      refine q_put (fk := 3) (h2 := va_up h3 2 r4) X cf_X4 (ac_2_0 hT_2) (by decide) fl_X9_156 rfl rfl (by rw [hT_2]; rfl) rfl rfl rfl dX9_takeAway_54 (rfl) (by rw [e_r4]) ?_
      refine q_aload_n X 0 dX9_takeAway_57 rfl ?_
      refine q_get (fk := 1) (v := .ref (gA G 2 0)) X cf_X9 (ac_0_0 hT_0) (by decide) fl_X9_20 rfl rfl dX9_takeAway_58 rfl ?_
      refine q_get (fk := 1) (v := .ref (gA G 2 2)) X cf_X4 (ac_2_0 hT_2) (by decide) fl_X9_165 rfl rfl dX9_takeAway_61 rfl ?_
      refine q_geti (fk := 0) (x := r4 16) X cf_X0 (ac_2_2 hT_2) (by decide) fl_X9_186 rfl rfl dX9_takeAway_64 (va_up_self _ _ _) rfl ?_
      have E : Z = (r4 16, va_up h3 2 r4) := by subst e_r4; subst e_h3; exact hZ.symm.trans ((if_pos c1).trans ((if_pos c2).trans rfl))
      exact q_iret X hret dX9_takeAway_67 (by rw [E]) (by rw [E])
    · skip
      refine q_ldc X kc_X9_129 dX9_takeAway_35 ?_
      have E : Z = ((-100002), h) := by exact hZ.symm.trans ((if_pos c1).trans ((if_neg c2).trans rfl))
      exact q_iret X hret dX9_takeAway_37 (by rw [E]) (by rw [E])
def L_X9_run_45 (fu : Nat) (h : Hp) (ti : Int32) (k : Int32) (hh : Hp) : Int32 × Hp := match fu with
  | 0 => (0, h)
  | fu + 1 => if ti ≤ k then (((hh 2) 4, hh)) else (let r5 : Nat → Int32 := S_X4_tick (hh 2) (hh 3) (hh 4); L_X9_run_45 fu h ti (k + 1) (va_up hh 2 r5))
def S_X9_run (h : Hp) (ti : Int32) : Int32 × Hp := if (S_X9_inRange ti 1 200) = 0 then (((-100001), h)) else (if (((h 2) 0) + ti) ≤ 10000 then (let h3 : Hp := S_X1_remember h; L_X9_run_45 ((ti.toInt - (0 : Int32).toInt).toNat + 1) h ti 0 h3) else (((-100003), h)))
set_option maxRecDepth 100000 in
set_option maxHeartbeats 4000000 in
theorem w_X9_run_45 {G : Geo} {p : Program} {l : Launch} {e : Env} {s : State} {m : MethodId} {args : Array Value} {below : List Frame} {meth : Method} {c : Code} {h : Hp} {ti : Int32} (X : CX G (AA G) p s m meth c RX9 cX9_run 3) (hret : meth.sig.returnType = (some .int)) (hK : KT G) (Z : Int32 × Hp) : ∀ (fu : Nat) (k : Int32) (hh : Hp), (ti.toInt - k.toInt).toNat < fu → L_X9_run_45 fu h ti k hh = Z → VV G (AA G) p l e { frames := 6, cells := 0, slots := 0, locals := 166 } s m args below meth c 0 0 (MQ below (QC G Z.2 (some (.int Z.1))) args s 0 0 (AA G)) 3 hh 45 [(0, .ref (gA G 0 0)), (1, .int ti), (2, .int k)] [] := by
  intro fu
  induction fu with
  | zero =>
    intro k hh  hm
    exact absurd hm (Nat.not_lt_zero _)
  | succ fu ih =>
    intro k hh  hm hZ
    have hG := X.2.2.2.2.2.1
    have hT_0 : gT G 0 = 0 := hK 0 (by decide)
    have hT_1 : gT G 1 = 1 := hK 1 (by decide)
    have hT_2 : gT G 2 = 2 := hK 2 (by decide)
    have hT_3 : gT G 3 = 3 := hK 3 (by decide)
    have hT_4 : gT G 4 = 3 := hK 4 (by decide)
    have hT_5 : gT G 5 = 5 := hK 5 (by decide)
    have hT_6 : gT G 6 = 2 := hK 6 (by decide)
    have hT_7 : gT G 7 = 6 := hK 7 (by decide)
    have hT_8 : gT G 8 = 7 := hK 8 (by decide)
    have hT_9 : gT G 9 = 3 := hK 9 (by decide)
    have hT_10 : gT G 10 = 8 := hK 10 (by decide)
    refine q_iload_n X 2 dX9_run_45 rfl ?_
    refine q_iload_n X 1 dX9_run_46 rfl ?_
    refine q_icmp_ge (tgt := 71) X dX9_run_47 (by decide) (fun c4 => ?_) (fun c4 => ?_)
    · skip
      refine q_aload_n X 0 dX9_run_71 rfl ?_
      refine q_get (fk := 1) (v := .ref (gA G 2 0)) X cf_X9 (ac_0_0 hT_0) (by decide) fl_X9_20 rfl rfl dX9_run_72 rfl ?_
      refine q_geti (fk := 5) (x := (hh 2) 4) X cf_X4 (ac_2_0 hT_2) (by decide) fl_X9_196 rfl rfl dX9_run_75 (rfl) rfl ?_
      have E : Z = ((hh 2) 4, hh) := by exact hZ.symm.trans ((if_pos c4).trans rfl)
      exact q_iret X hret dX9_run_78 (by rw [E]) (by rw [E])
    · skip
      refine q_aload_n X 0 dX9_run_50 rfl ?_
      refine q_get (fk := 1) (v := .ref (gA G 2 0)) X cf_X9 (ac_0_0 hT_0) (by decide) fl_X9_20 rfl rfl dX9_run_51 rfl ?_
      refine q_aload_n X 0 dX9_run_54 rfl ?_
      refine q_get (fk := 3) (v := .ref (gA G 3 0)) X cf_X9 (ac_0_0 hT_0) (by decide) fl_X9_32 rfl rfl dX9_run_55 rfl ?_
      refine q_aload_n X 0 dX9_run_58 rfl ?_
      refine q_get (fk := 4) (v := .ref (gA G 4 0)) X cf_X9 (ac_0_0 hT_0) (by decide) fl_X9_36 rfl rfl dX9_run_59 rfl ?_
      obtain ⟨r5, e_r5⟩ : ∃ z : Nat → Int32, z = S_X4_tick (hh 2) (hh 3) (hh 4) := ⟨_, rfl⟩
      refine q_callV (h1 := _) (rest := []) (As := [.ref (gA G 3 0), .ref (gA G 4 0)]) X (c_X4_tick (l := l) hG (ρ := (hh 2)) (π := (hh 3)) (μ := (hh 4))   hK hT_2 (rfl) (rfl) (rfl)) mf_X4_tick mv_X4_tick cf_X4 rfl (ac_2_0 hT_2) lk_X9_192 rfl ⟨by decide, by decide⟩ ⟨Nat.le_refl _, Nat.le_refl _⟩ rfl (Nat.le_of_ble_eq_true rfl) dX9_run_62 (st2 := []) rfl ?_
      refine q_eq (h2 := va_up hh 2 r5) (by rw [e_r5]) rfl ?_
      refine q_iinc (v := k + 1) (lv' := [(2, .int (k + 1)), (0, .ref (gA G 0 0)), (1, .int ti)]) X 2 dX9_run_65 rfl rfl (by decide) rfl ?_
      refine q_goto (tgt := 45) X dX9_run_68 (by decide) ?_
      refine q_sub (lv2 := [(0, .ref (gA G 0 0)), (1, .int ti), (2, .int (k + 1))]) [1, 2, 0] rfl ?_
      have E : L_X9_run_45 fu h ti (k + 1) (va_up hh 2 r5) = Z := Eq.trans (Eq.symm (by subst e_r5; exact (if_neg c4).trans rfl)) hZ
      exact ih (k + 1) (va_up hh 2 r5)  (by subst e_r5; exact ms_up c4 hm) E
set_option maxRecDepth 100000 in
set_option maxHeartbeats 4000000 in
theorem c_X9_run {G : Geo} {l : Launch} (hG : GOK G) {h : Hp} (ti : Int32) (hK : KT G) : CM G l yX9_run cX9_run 3 (some .int) 6 166 [.ref (gA G 0 0), .int ti] h ((S_X9_run h ti).2) (some (.int ((S_X9_run h ti).1))) := by
  obtain ⟨Z, hZ⟩ : ∃ Z, S_X9_run h ti = Z := ⟨_, rfl⟩
  rw [hZ]
  refine q_enter hG mf_X9_run (Nat.le_of_ble_eq_true rfl) ?_
  intro p e s m below meth c X hret
  have hT_0 : gT G 0 = 0 := hK 0 (by decide)
  have hT_1 : gT G 1 = 1 := hK 1 (by decide)
  have hT_2 : gT G 2 = 2 := hK 2 (by decide)
  have hT_3 : gT G 3 = 3 := hK 3 (by decide)
  have hT_4 : gT G 4 = 3 := hK 4 (by decide)
  have hT_5 : gT G 5 = 5 := hK 5 (by decide)
  have hT_6 : gT G 6 = 2 := hK 6 (by decide)
  have hT_7 : gT G 7 = 6 := hK 7 (by decide)
  have hT_8 : gT G 8 = 7 := hK 8 (by decide)
  have hT_9 : gT G 9 = 3 := hK 9 (by decide)
  have hT_10 : gT G 10 = 8 := hK 10 (by decide)
  refine q_lv (lv2 := [(0, .ref (gA G 0 0)), (1, .int ti)]) rfl ?_
  refine q_iload_n X 1 dX9_run_0 rfl ?_
  refine q_iconst (v := 1) X dX9_run_1 (by decide) ?_
  refine q_sipush (v := 200) X dX9_run_2 (by decide) ?_
  refine q_callS (h1 := _) (rest := []) (As := [.int ti, .int 1, .int 200]) X (c_X9_inRange (l := l) hG   ti 1 200 ) mf_X9_inRange ms_X9_inRange lk_X9_73 rfl ⟨by decide, by decide⟩ ⟨Nat.le_refl _, Nat.le_refl _⟩ rfl (Nat.le_of_ble_eq_true rfl) dX9_run_5 (st2 := [.int (S_X9_inRange ti 1 200)]) rfl ?_
  refine q_if_ne (tgt := 14) X dX9_run_8 (by decide) (fun c1 => ?_) (fun c1 => ?_)
  · skip
    refine q_aload_n X 0 dX9_run_14 rfl ?_
    refine q_get (fk := 1) (v := .ref (gA G 2 0)) X cf_X9 (ac_0_0 hT_0) (by decide) fl_X9_20 rfl rfl dX9_run_15 rfl ?_
    refine q_geti (fk := 2) (x := (h 2) 0) X cf_X4 (ac_2_0 hT_2) (by decide) fl_X9_189 rfl rfl dX9_run_18 (rfl) rfl ?_
    refine q_iload_n X 1 dX9_run_21 rfl ?_
    refine q_iadd X dX9_run_22 ?_
    refine q_sipush (v := 10000) X dX9_run_23 (by decide) ?_
    refine q_icmp_le (tgt := 32) X dX9_run_26 (by decide) (fun c2 => ?_) (fun c2 => ?_)
    · skip
      refine q_aload_n X 0 dX9_run_32 rfl ?_
      refine q_get (fk := 6) (v := .ref (gA G 10 0)) X cf_X9 (ac_0_0 hT_0) (by decide) fl_X9_45 rfl rfl dX9_run_33 rfl ?_
      refine q_aload_n X 0 dX9_run_36 rfl ?_
      refine q_get (fk := 0) (v := .ref (gA G 1 0)) X cf_X9 (ac_0_0 hT_0) (by decide) fl_X9_10 rfl rfl dX9_run_37 rfl ?_
      obtain ⟨h3, e_h3⟩ : ∃ z : Hp, z = S_X1_remember h := ⟨_, rfl⟩
      refine q_callV (h1 := _) (rest := []) (As := [.ref (gA G 1 0)]) X (c_X1_remember (l := l) hG    hK) mf_X1_remember mv_X1_remember cf_X1 rfl (ac_8_0 hT_10) lk_X9_78 rfl ⟨by decide, by decide⟩ ⟨Nat.le_refl _, Nat.le_refl _⟩ rfl (Nat.le_of_ble_eq_true rfl) dX9_run_40 (st2 := []) rfl ?_
      refine q_eq (h2 := h3) (by rw [e_h3]) rfl ?_
      refine q_iconst (v := 0) X dX9_run_43 (by decide) ?_
      refine q_istore_n (lv' := [(2, .int 0), (0, .ref (gA G 0 0)), (1, .int ti)]) X dX9_run_44 (by decide) rfl ?_
      refine q_sub (lv2 := [(0, .ref (gA G 0 0)), (1, .int ti), (2, .int 0)]) [1, 2, 0] rfl ?_
      have E : L_X9_run_45 ((ti.toInt - (0 : Int32).toInt).toNat + 1) h ti 0 h3 = Z := Eq.trans (Eq.symm (by subst e_h3; exact (if_neg c1).trans ((if_pos c2).trans rfl))) hZ
      exact w_X9_run_45 X hret hK Z ((ti.toInt - (0 : Int32).toInt).toNat + 1) 0 h3  (by subst e_h3; exact Nat.lt_succ_self _) E
    · skip
      refine q_ldc X kc_X9_122 dX9_run_29 ?_
      have E : Z = ((-100003), h) := by exact hZ.symm.trans ((if_neg c1).trans ((if_neg c2).trans rfl))
      exact q_iret X hret dX9_run_31 (by rw [E]) (by rw [E])
  · skip
    refine q_ldc X kc_X9_77 dX9_run_11 ?_
    have E : Z = ((-100001), h) := by exact hZ.symm.trans ((if_pos c1).trans rfl)
    exact q_iret X hret dX9_run_13 (by rw [E]) (by rw [E])
def S_X9_undo (h : Hp) : Int32 × Hp := if 0 < ((h 10) 1) then (let h2 : Hp := S_X1_restore h; ((h2 10) 1, h2)) else (((-100002), h))
set_option maxRecDepth 100000 in
set_option maxHeartbeats 4000000 in
theorem c_X9_undo {G : Geo} {l : Launch} (hG : GOK G) {h : Hp}  (hK : KT G) : CM G l yX9_undo cX9_undo 1 (some .int) 6 166 [.ref (gA G 0 0)] h ((S_X9_undo h).2) (some (.int ((S_X9_undo h).1))) := by
  obtain ⟨Z, hZ⟩ : ∃ Z, S_X9_undo h = Z := ⟨_, rfl⟩
  rw [hZ]
  refine q_enter hG mf_X9_undo (Nat.le_of_ble_eq_true rfl) ?_
  intro p e s m below meth c X hret
  have hT_0 : gT G 0 = 0 := hK 0 (by decide)
  have hT_1 : gT G 1 = 1 := hK 1 (by decide)
  have hT_2 : gT G 2 = 2 := hK 2 (by decide)
  have hT_3 : gT G 3 = 3 := hK 3 (by decide)
  have hT_4 : gT G 4 = 3 := hK 4 (by decide)
  have hT_5 : gT G 5 = 5 := hK 5 (by decide)
  have hT_6 : gT G 6 = 2 := hK 6 (by decide)
  have hT_7 : gT G 7 = 6 := hK 7 (by decide)
  have hT_8 : gT G 8 = 7 := hK 8 (by decide)
  have hT_9 : gT G 9 = 3 := hK 9 (by decide)
  have hT_10 : gT G 10 = 8 := hK 10 (by decide)
  refine q_lv (lv2 := [(0, .ref (gA G 0 0))]) rfl ?_
  refine q_aload_n X 0 dX9_undo_0 rfl ?_
  refine q_get (fk := 6) (v := .ref (gA G 10 0)) X cf_X9 (ac_0_0 hT_0) (by decide) fl_X9_45 rfl rfl dX9_undo_1 rfl ?_
  refine q_geti (fk := 2) (x := (h 10) 1) X cf_X1 (ac_8_0 hT_10) (by decide) fl_X9_199 rfl rfl dX9_undo_4 (rfl) rfl ?_
  refine q_if_gt (tgt := 13) X dX9_undo_7 (by decide) (fun c1 => ?_) (fun c1 => ?_)
  · skip
    refine q_aload_n X 0 dX9_undo_13 rfl ?_
    refine q_get (fk := 6) (v := .ref (gA G 10 0)) X cf_X9 (ac_0_0 hT_0) (by decide) fl_X9_45 rfl rfl dX9_undo_14 rfl ?_
    refine q_aload_n X 0 dX9_undo_17 rfl ?_
    refine q_get (fk := 0) (v := .ref (gA G 1 0)) X cf_X9 (ac_0_0 hT_0) (by decide) fl_X9_10 rfl rfl dX9_undo_18 rfl ?_
    obtain ⟨h2, e_h2⟩ : ∃ z : Hp, z = S_X1_restore h := ⟨_, rfl⟩
    refine q_callV (h1 := _) (rest := []) (As := [.ref (gA G 1 0)]) X (c_X1_restore (l := l) hG    hK) mf_X1_restore mv_X1_restore cf_X1 rfl (ac_8_0 hT_10) lk_X9_200 rfl ⟨by decide, by decide⟩ ⟨Nat.le_refl _, Nat.le_refl _⟩ rfl (Nat.le_of_ble_eq_true rfl) dX9_undo_21 (st2 := []) rfl ?_
    refine q_eq (h2 := h2) (by rw [e_h2]) rfl ?_
    refine q_aload_n X 0 dX9_undo_24 rfl ?_
    refine q_get (fk := 6) (v := .ref (gA G 10 0)) X cf_X9 (ac_0_0 hT_0) (by decide) fl_X9_45 rfl rfl dX9_undo_25 rfl ?_
    refine q_geti (fk := 2) (x := (h2 10) 1) X cf_X1 (ac_8_0 hT_10) (by decide) fl_X9_199 rfl rfl dX9_undo_28 (rfl) rfl ?_
    have E : Z = ((h2 10) 1, h2) := by subst e_h2; exact hZ.symm.trans ((if_pos c1).trans rfl)
    exact q_iret X hret dX9_undo_31 (by rw [E]) (by rw [E])
  · skip
    refine q_ldc X kc_X9_129 dX9_undo_10 ?_
    have E : Z = ((-100002), h) := by exact hZ.symm.trans ((if_neg c1).trans rfl)
    exact q_iret X hret dX9_undo_12 (by rw [E]) (by rw [E])
def S_X9_count (h : Hp) (wh : Int32) : Int32 := if wh = 0 then ((h 2) 0) else (if wh = 1 then ((h 2) 1) else (if wh = 2 then ((h 2) 2) else (if wh = 3 then ((h 2) 4) else (if wh = 4 then ((h 2) 3) else (if wh = 5 then ((h 2) 7) else (if wh = 6 then ((h 2) 5) else (if wh = 7 then ((h 2) 13) else (if wh = 8 then ((h 3) 0) else (if wh = 9 then ((h 4) 0) else (if wh = 10 then ((h 5) 1) else (if wh = 11 then ((h 10) 1) else (if wh = 12 then ((h 7) 0) else ((-100001))))))))))))))
set_option maxRecDepth 100000 in
set_option maxHeartbeats 4000000 in
theorem c_X9_count {G : Geo} {l : Launch} (hG : GOK G) {h : Hp} (wh : Int32) (hK : KT G) : CM G l yX9_count cX9_count 2 (some .int) 0 0 [.ref (gA G 0 0), .int wh] h h (some (.int (S_X9_count h wh))) := by
  obtain ⟨Z, hZ⟩ : ∃ Z, S_X9_count h wh = Z := ⟨_, rfl⟩
  rw [hZ]
  refine q_enter hG mf_X9_count (Nat.le_of_ble_eq_true rfl) ?_
  intro p e s m below meth c X hret
  have hT_0 : gT G 0 = 0 := hK 0 (by decide)
  have hT_1 : gT G 1 = 1 := hK 1 (by decide)
  have hT_2 : gT G 2 = 2 := hK 2 (by decide)
  have hT_3 : gT G 3 = 3 := hK 3 (by decide)
  have hT_4 : gT G 4 = 3 := hK 4 (by decide)
  have hT_5 : gT G 5 = 5 := hK 5 (by decide)
  have hT_6 : gT G 6 = 2 := hK 6 (by decide)
  have hT_7 : gT G 7 = 6 := hK 7 (by decide)
  have hT_8 : gT G 8 = 7 := hK 8 (by decide)
  have hT_9 : gT G 9 = 3 := hK 9 (by decide)
  have hT_10 : gT G 10 = 8 := hK 10 (by decide)
  refine q_lv (lv2 := [(0, .ref (gA G 0 0)), (1, .int wh)]) rfl ?_
  refine q_iload_n X 1 dX9_count_0 rfl ?_
  rcases Decidable.em (wh = 0) with c1 | c1
  · skip
    refine q_tabIn (off := 67) (tgt := 68) X dX9_count_1 (by rw [c1]; decide) (by rw [c1]; decide) (by rw [c1]; rfl) (by decide) ?_
    refine q_aload_n X 0 dX9_count_68 rfl ?_
    refine q_get (fk := 1) (v := .ref (gA G 2 0)) X cf_X9 (ac_0_0 hT_0) (by decide) fl_X9_20 rfl rfl dX9_count_69 rfl ?_
    refine q_geti (fk := 2) (x := (h 2) 0) X cf_X4 (ac_2_0 hT_2) (by decide) fl_X9_189 rfl rfl dX9_count_72 (rfl) rfl ?_
    have E : Z = (h 2) 0 := by exact hZ.symm.trans ((if_pos c1).trans rfl)
    exact q_iret X hret dX9_count_75 (by rw [E]) rfl
  rcases Decidable.em (wh = 1) with c2 | c2
  · skip
    refine q_tabIn (off := 75) (tgt := 76) X dX9_count_1 (by rw [c2]; decide) (by rw [c2]; decide) (by rw [c2]; rfl) (by decide) ?_
    refine q_aload_n X 0 dX9_count_76 rfl ?_
    refine q_get (fk := 1) (v := .ref (gA G 2 0)) X cf_X9 (ac_0_0 hT_0) (by decide) fl_X9_20 rfl rfl dX9_count_77 rfl ?_
    refine q_geti (fk := 3) (x := (h 2) 1) X cf_X4 (ac_2_0 hT_2) (by decide) fl_X9_156 rfl rfl dX9_count_80 (rfl) rfl ?_
    have E : Z = (h 2) 1 := by exact hZ.symm.trans ((if_neg c1).trans ((if_pos c2).trans rfl))
    exact q_iret X hret dX9_count_83 (by rw [E]) rfl
  rcases Decidable.em (wh = 2) with c3 | c3
  · skip
    refine q_tabIn (off := 83) (tgt := 84) X dX9_count_1 (by rw [c3]; decide) (by rw [c3]; decide) (by rw [c3]; rfl) (by decide) ?_
    refine q_aload_n X 0 dX9_count_84 rfl ?_
    refine q_get (fk := 1) (v := .ref (gA G 2 0)) X cf_X9 (ac_0_0 hT_0) (by decide) fl_X9_20 rfl rfl dX9_count_85 rfl ?_
    refine q_geti (fk := 4) (x := (h 2) 2) X cf_X4 (ac_2_0 hT_2) (by decide) fl_X9_162 rfl rfl dX9_count_88 (rfl) rfl ?_
    have E : Z = (h 2) 2 := by exact hZ.symm.trans ((if_neg c1).trans ((if_neg c2).trans ((if_pos c3).trans rfl)))
    exact q_iret X hret dX9_count_91 (by rw [E]) rfl
  rcases Decidable.em (wh = 3) with c4 | c4
  · skip
    refine q_tabIn (off := 91) (tgt := 92) X dX9_count_1 (by rw [c4]; decide) (by rw [c4]; decide) (by rw [c4]; rfl) (by decide) ?_
    refine q_aload_n X 0 dX9_count_92 rfl ?_
    refine q_get (fk := 1) (v := .ref (gA G 2 0)) X cf_X9 (ac_0_0 hT_0) (by decide) fl_X9_20 rfl rfl dX9_count_93 rfl ?_
    refine q_geti (fk := 5) (x := (h 2) 4) X cf_X4 (ac_2_0 hT_2) (by decide) fl_X9_196 rfl rfl dX9_count_96 (rfl) rfl ?_
    have E : Z = (h 2) 4 := by exact hZ.symm.trans ((if_neg c1).trans ((if_neg c2).trans ((if_neg c3).trans ((if_pos c4).trans rfl))))
    exact q_iret X hret dX9_count_99 (by rw [E]) rfl
  rcases Decidable.em (wh = 4) with c5 | c5
  · skip
    refine q_tabIn (off := 99) (tgt := 100) X dX9_count_1 (by rw [c5]; decide) (by rw [c5]; decide) (by rw [c5]; rfl) (by decide) ?_
    refine q_aload_n X 0 dX9_count_100 rfl ?_
    refine q_get (fk := 2) (v := .ref (gA G 2 1)) X cf_X9 (ac_0_0 hT_0) (by decide) fl_X9_27 rfl rfl dX9_count_101 rfl ?_
    refine q_geti (fk := 0) (x := (h 2) 3) X cf_X5 (ac_2_1 hT_2) (by decide) fl_X9_82 rfl rfl dX9_count_104 (rfl) rfl ?_
    have E : Z = (h 2) 3 := by exact hZ.symm.trans ((if_neg c1).trans ((if_neg c2).trans ((if_neg c3).trans ((if_neg c4).trans ((if_pos c5).trans rfl)))))
    exact q_iret X hret dX9_count_107 (by rw [E]) rfl
  rcases Decidable.em (wh = 5) with c6 | c6
  · skip
    refine q_tabIn (off := 107) (tgt := 108) X dX9_count_1 (by rw [c6]; decide) (by rw [c6]; decide) (by rw [c6]; rfl) (by decide) ?_
    refine q_aload_n X 0 dX9_count_108 rfl ?_
    refine q_get (fk := 1) (v := .ref (gA G 2 0)) X cf_X9 (ac_0_0 hT_0) (by decide) fl_X9_20 rfl rfl dX9_count_109 rfl ?_
    refine q_geti (fk := 6) (x := (h 2) 7) X cf_X4 (ac_2_0 hT_2) (by decide) fl_X9_88 rfl rfl dX9_count_112 (rfl) rfl ?_
    have E : Z = (h 2) 7 := by exact hZ.symm.trans ((if_neg c1).trans ((if_neg c2).trans ((if_neg c3).trans ((if_neg c4).trans ((if_neg c5).trans ((if_pos c6).trans rfl))))))
    exact q_iret X hret dX9_count_115 (by rw [E]) rfl
  rcases Decidable.em (wh = 6) with c7 | c7
  · skip
    refine q_tabIn (off := 115) (tgt := 116) X dX9_count_1 (by rw [c7]; decide) (by rw [c7]; decide) (by rw [c7]; rfl) (by decide) ?_
    refine q_aload_n X 0 dX9_count_116 rfl ?_
    refine q_get (fk := 2) (v := .ref (gA G 2 1)) X cf_X9 (ac_0_0 hT_0) (by decide) fl_X9_27 rfl rfl dX9_count_117 rfl ?_
    refine q_geti (fk := 5) (x := (h 2) 5) X cf_X5 (ac_2_1 hT_2) (by decide) fl_X9_103 rfl rfl dX9_count_120 (rfl) rfl ?_
    have E : Z = (h 2) 5 := by exact hZ.symm.trans ((if_neg c1).trans ((if_neg c2).trans ((if_neg c3).trans ((if_neg c4).trans ((if_neg c5).trans ((if_neg c6).trans ((if_pos c7).trans rfl)))))))
    exact q_iret X hret dX9_count_123 (by rw [E]) rfl
  rcases Decidable.em (wh = 7) with c8 | c8
  · skip
    refine q_tabIn (off := 123) (tgt := 124) X dX9_count_1 (by rw [c8]; decide) (by rw [c8]; decide) (by rw [c8]; rfl) (by decide) ?_
    refine q_aload_n X 0 dX9_count_124 rfl ?_
    refine q_get (fk := 1) (v := .ref (gA G 2 0)) X cf_X9 (ac_0_0 hT_0) (by decide) fl_X9_20 rfl rfl dX9_count_125 rfl ?_
    refine q_geti (fk := 7) (x := (h 2) 13) X cf_X4 (ac_2_0 hT_2) (by decide) fl_X9_203 rfl rfl dX9_count_128 (rfl) rfl ?_
    have E : Z = (h 2) 13 := by exact hZ.symm.trans ((if_neg c1).trans ((if_neg c2).trans ((if_neg c3).trans ((if_neg c4).trans ((if_neg c5).trans ((if_neg c6).trans ((if_neg c7).trans ((if_pos c8).trans rfl))))))))
    exact q_iret X hret dX9_count_131 (by rw [E]) rfl
  rcases Decidable.em (wh = 8) with c9 | c9
  · skip
    refine q_tabIn (off := 131) (tgt := 132) X dX9_count_1 (by rw [c9]; decide) (by rw [c9]; decide) (by rw [c9]; rfl) (by decide) ?_
    refine q_aload_n X 0 dX9_count_132 rfl ?_
    refine q_get (fk := 3) (v := .ref (gA G 3 0)) X cf_X9 (ac_0_0 hT_0) (by decide) fl_X9_32 rfl rfl dX9_count_133 rfl ?_
    refine q_geti (fk := 2) (x := (h 3) 0) X cf_X6 (ac_3_0 hT_3) (by decide) fl_X9_123 rfl rfl dX9_count_136 (rfl) rfl ?_
    have E : Z = (h 3) 0 := by exact hZ.symm.trans ((if_neg c1).trans ((if_neg c2).trans ((if_neg c3).trans ((if_neg c4).trans ((if_neg c5).trans ((if_neg c6).trans ((if_neg c7).trans ((if_neg c8).trans ((if_pos c9).trans rfl)))))))))
    exact q_iret X hret dX9_count_139 (by rw [E]) rfl
  rcases Decidable.em (wh = 9) with c10 | c10
  · skip
    refine q_tabIn (off := 139) (tgt := 140) X dX9_count_1 (by rw [c10]; decide) (by rw [c10]; decide) (by rw [c10]; rfl) (by decide) ?_
    refine q_aload_n X 0 dX9_count_140 rfl ?_
    refine q_get (fk := 4) (v := .ref (gA G 4 0)) X cf_X9 (ac_0_0 hT_0) (by decide) fl_X9_36 rfl rfl dX9_count_141 rfl ?_
    refine q_geti (fk := 2) (x := (h 4) 0) X cf_X6 (ac_3_0 hT_4) (by decide) fl_X9_123 rfl rfl dX9_count_144 (rfl) rfl ?_
    have E : Z = (h 4) 0 := by exact hZ.symm.trans ((if_neg c1).trans ((if_neg c2).trans ((if_neg c3).trans ((if_neg c4).trans ((if_neg c5).trans ((if_neg c6).trans ((if_neg c7).trans ((if_neg c8).trans ((if_neg c9).trans ((if_pos c10).trans rfl))))))))))
    exact q_iret X hret dX9_count_147 (by rw [E]) rfl
  rcases Decidable.em (wh = 10) with c11 | c11
  · skip
    refine q_tabIn (off := 147) (tgt := 148) X dX9_count_1 (by rw [c11]; decide) (by rw [c11]; decide) (by rw [c11]; rfl) (by decide) ?_
    refine q_aload_n X 0 dX9_count_148 rfl ?_
    refine q_get (fk := 5) (v := .ref (gA G 5 0)) X cf_X9 (ac_0_0 hT_0) (by decide) fl_X9_41 rfl rfl dX9_count_149 rfl ?_
    refine q_geti (fk := 1) (x := (h 5) 1) X cf_X2 (ac_5_0 hT_5) (by decide) fl_X9_206 rfl rfl dX9_count_152 (rfl) rfl ?_
    have E : Z = (h 5) 1 := by exact hZ.symm.trans ((if_neg c1).trans ((if_neg c2).trans ((if_neg c3).trans ((if_neg c4).trans ((if_neg c5).trans ((if_neg c6).trans ((if_neg c7).trans ((if_neg c8).trans ((if_neg c9).trans ((if_neg c10).trans ((if_pos c11).trans rfl)))))))))))
    exact q_iret X hret dX9_count_155 (by rw [E]) rfl
  rcases Decidable.em (wh = 11) with c12 | c12
  · skip
    refine q_tabIn (off := 155) (tgt := 156) X dX9_count_1 (by rw [c12]; decide) (by rw [c12]; decide) (by rw [c12]; rfl) (by decide) ?_
    refine q_aload_n X 0 dX9_count_156 rfl ?_
    refine q_get (fk := 6) (v := .ref (gA G 10 0)) X cf_X9 (ac_0_0 hT_0) (by decide) fl_X9_45 rfl rfl dX9_count_157 rfl ?_
    refine q_geti (fk := 2) (x := (h 10) 1) X cf_X1 (ac_8_0 hT_10) (by decide) fl_X9_199 rfl rfl dX9_count_160 (rfl) rfl ?_
    have E : Z = (h 10) 1 := by exact hZ.symm.trans ((if_neg c1).trans ((if_neg c2).trans ((if_neg c3).trans ((if_neg c4).trans ((if_neg c5).trans ((if_neg c6).trans ((if_neg c7).trans ((if_neg c8).trans ((if_neg c9).trans ((if_neg c10).trans ((if_neg c11).trans ((if_pos c12).trans rfl))))))))))))
    exact q_iret X hret dX9_count_163 (by rw [E]) rfl
  rcases Decidable.em (wh = 12) with c13 | c13
  · skip
    refine q_tabIn (off := 163) (tgt := 164) X dX9_count_1 (by rw [c13]; decide) (by rw [c13]; decide) (by rw [c13]; rfl) (by decide) ?_
    refine q_aload_n X 0 dX9_count_164 rfl ?_
    refine q_get (fk := 7) (v := .ref (gA G 7 0)) X cf_X9 (ac_0_0 hT_0) (by decide) fl_X9_52 rfl rfl dX9_count_165 rfl ?_
    refine q_geti (fk := 1) (x := (h 7) 0) X cf_X8 (ac_6_0 hT_7) (by decide) fl_X9_138 rfl rfl dX9_count_168 (rfl) rfl ?_
    have E : Z = (h 7) 0 := by exact hZ.symm.trans ((if_neg c1).trans ((if_neg c2).trans ((if_neg c3).trans ((if_neg c4).trans ((if_neg c5).trans ((if_neg c6).trans ((if_neg c7).trans ((if_neg c8).trans ((if_neg c9).trans ((if_neg c10).trans ((if_neg c11).trans ((if_neg c12).trans ((if_pos c13).trans rfl)))))))))))))
    exact q_iret X hret dX9_count_171 (by rw [E]) rfl
  refine q_tabOut (tgt := 172) X dX9_count_1 (by have zc1 := lv_neT c1 (a := 0) (by decide); have zc2 := lv_neT c2 (a := 1) (by decide); have zc3 := lv_neT c3 (a := 2) (by decide); have zc4 := lv_neT c4 (a := 3) (by decide); have zc5 := lv_neT c5 (a := 4) (by decide); have zc6 := lv_neT c6 (a := 5) (by decide); have zc7 := lv_neT c7 (a := 6) (by decide); have zc8 := lv_neT c8 (a := 7) (by decide); have zc9 := lv_neT c9 (a := 8) (by decide); have zc10 := lv_neT c10 (a := 9) (by decide); have zc11 := lv_neT c11 (a := 10) (by decide); have zc12 := lv_neT c12 (a := 11) (by decide); have zc13 := lv_neT c13 (a := 12) (by decide); omega) (by decide) ?_
  refine q_ldc X kc_X9_77 dX9_count_172 ?_
  have E : Z = (-100001) := by exact hZ.symm.trans ((if_neg c1).trans ((if_neg c2).trans ((if_neg c3).trans ((if_neg c4).trans ((if_neg c5).trans ((if_neg c6).trans ((if_neg c7).trans ((if_neg c8).trans ((if_neg c9).trans ((if_neg c10).trans ((if_neg c11).trans ((if_neg c12).trans ((if_neg c13).trans rfl)))))))))))))
  exact q_iret X hret dX9_count_174 (by rw [E]) rfl
def S_X9_batch (h : Hp) (wh : Int32) : Int32 := if (S_X9_inRange wh 0 9) = 0 then ((-100001)) else (if ((h 2) 1) = 0 then ((-100002)) else (S_X0_number (h 2) wh))
set_option maxRecDepth 100000 in
set_option maxHeartbeats 4000000 in
theorem c_X9_batch {G : Geo} {l : Launch} (hG : GOK G) {h : Hp} (wh : Int32) (hK : KT G) : CM G l yX9_batch cX9_batch 2 (some .int) 3 64 [.ref (gA G 0 0), .int wh] h h (some (.int (S_X9_batch h wh))) := by
  obtain ⟨Z, hZ⟩ : ∃ Z, S_X9_batch h wh = Z := ⟨_, rfl⟩
  rw [hZ]
  refine q_enter hG mf_X9_batch (Nat.le_of_ble_eq_true rfl) ?_
  intro p e s m below meth c X hret
  have hT_0 : gT G 0 = 0 := hK 0 (by decide)
  have hT_1 : gT G 1 = 1 := hK 1 (by decide)
  have hT_2 : gT G 2 = 2 := hK 2 (by decide)
  have hT_3 : gT G 3 = 3 := hK 3 (by decide)
  have hT_4 : gT G 4 = 3 := hK 4 (by decide)
  have hT_5 : gT G 5 = 5 := hK 5 (by decide)
  have hT_6 : gT G 6 = 2 := hK 6 (by decide)
  have hT_7 : gT G 7 = 6 := hK 7 (by decide)
  have hT_8 : gT G 8 = 7 := hK 8 (by decide)
  have hT_9 : gT G 9 = 3 := hK 9 (by decide)
  have hT_10 : gT G 10 = 8 := hK 10 (by decide)
  refine q_lv (lv2 := [(0, .ref (gA G 0 0)), (1, .int wh)]) rfl ?_
  refine q_iload_n X 1 dX9_batch_0 rfl ?_
  refine q_iconst (v := 0) X dX9_batch_1 (by decide) ?_
  refine q_bipush (v := 9) X dX9_batch_2 (by decide) ?_
  refine q_callS (h1 := _) (rest := []) (As := [.int wh, .int 0, .int 9]) X (c_X9_inRange (l := l) hG   wh 0 9 ) mf_X9_inRange ms_X9_inRange lk_X9_73 rfl ⟨by decide, by decide⟩ ⟨Nat.le_refl _, Nat.le_refl _⟩ rfl (Nat.le_of_ble_eq_true rfl) dX9_batch_4 (st2 := [.int (S_X9_inRange wh 0 9)]) rfl ?_
  refine q_if_ne (tgt := 13) X dX9_batch_7 (by decide) (fun c1 => ?_) (fun c1 => ?_)
  · skip
    refine q_aload_n X 0 dX9_batch_13 rfl ?_
    refine q_get (fk := 1) (v := .ref (gA G 2 0)) X cf_X9 (ac_0_0 hT_0) (by decide) fl_X9_20 rfl rfl dX9_batch_14 rfl ?_
    refine q_geti (fk := 3) (x := (h 2) 1) X cf_X4 (ac_2_0 hT_2) (by decide) fl_X9_156 rfl rfl dX9_batch_17 (rfl) rfl ?_
    refine q_if_ne (tgt := 26) X dX9_batch_20 (by decide) (fun c2 => ?_) (fun c2 => ?_)
    · skip
      refine q_aload_n X 0 dX9_batch_26 rfl ?_
      refine q_get (fk := 1) (v := .ref (gA G 2 0)) X cf_X9 (ac_0_0 hT_0) (by decide) fl_X9_20 rfl rfl dX9_batch_27 rfl ?_
      refine q_get (fk := 1) (v := .ref (gA G 2 2)) X cf_X4 (ac_2_0 hT_2) (by decide) fl_X9_165 rfl rfl dX9_batch_30 rfl ?_
      refine q_iload_n X 1 dX9_batch_33 rfl ?_
      refine q_callV (h1 := _) (rest := []) (As := [.int wh]) X (c_X0_number (l := l) hG (ρ := (h 2))  wh hT_2 (rfl)) mf_X0_number mv_X0_number cf_X0 rfl (ac_2_2 hT_2) lk_X9_207 rfl ⟨by decide, by decide⟩ ⟨Nat.le_refl _, Nat.le_refl _⟩ rfl (Nat.le_of_ble_eq_true rfl) dX9_batch_34 (st2 := [.int (S_X0_number (h 2) wh)]) rfl ?_
      have E : Z = S_X0_number (h 2) wh := by exact hZ.symm.trans ((if_neg c1).trans ((if_neg c2).trans rfl))
      exact q_iret X hret dX9_batch_37 (by rw [E]) rfl
    · skip
      refine q_ldc X kc_X9_129 dX9_batch_23 ?_
      have E : Z = (-100002) := by exact hZ.symm.trans ((if_neg c1).trans ((if_pos c2).trans rfl))
      exact q_iret X hret dX9_batch_25 (by rw [E]) rfl
  · skip
    refine q_ldc X kc_X9_77 dX9_batch_10 ?_
    have E : Z = (-100001) := by exact hZ.symm.trans ((if_pos c1).trans rfl)
    exact q_iret X hret dX9_batch_12 (by rw [E]) rfl
def S_X9_target (h : Hp) (ti : Int32) : Int32 := if (S_X9_inRange ti 0 1000) = 0 then ((-100001)) else (if ((h 3) 0) = 0 then ((-100009)) else (S_X6_valueOnLine (h 3) 8 ti))
set_option maxRecDepth 100000 in
set_option maxHeartbeats 4000000 in
theorem c_X9_target {G : Geo} {l : Launch} (hG : GOK G) {h : Hp} (ti : Int32) (hK : KT G) : CM G l yX9_target cX9_target 2 (some .int) 3 73 [.ref (gA G 0 0), .int ti] h h (some (.int (S_X9_target h ti))) := by
  obtain ⟨Z, hZ⟩ : ∃ Z, S_X9_target h ti = Z := ⟨_, rfl⟩
  rw [hZ]
  refine q_enter hG mf_X9_target (Nat.le_of_ble_eq_true rfl) ?_
  intro p e s m below meth c X hret
  have hT_0 : gT G 0 = 0 := hK 0 (by decide)
  have hT_1 : gT G 1 = 1 := hK 1 (by decide)
  have hT_2 : gT G 2 = 2 := hK 2 (by decide)
  have hT_3 : gT G 3 = 3 := hK 3 (by decide)
  have hT_4 : gT G 4 = 3 := hK 4 (by decide)
  have hT_5 : gT G 5 = 5 := hK 5 (by decide)
  have hT_6 : gT G 6 = 2 := hK 6 (by decide)
  have hT_7 : gT G 7 = 6 := hK 7 (by decide)
  have hT_8 : gT G 8 = 7 := hK 8 (by decide)
  have hT_9 : gT G 9 = 3 := hK 9 (by decide)
  have hT_10 : gT G 10 = 8 := hK 10 (by decide)
  refine q_lv (lv2 := [(0, .ref (gA G 0 0)), (1, .int ti)]) rfl ?_
  refine q_iload_n X 1 dX9_target_0 rfl ?_
  refine q_iconst (v := 0) X dX9_target_1 (by decide) ?_
  refine q_sipush (v := 1000) X dX9_target_2 (by decide) ?_
  refine q_callS (h1 := _) (rest := []) (As := [.int ti, .int 0, .int 1000]) X (c_X9_inRange (l := l) hG   ti 0 1000 ) mf_X9_inRange ms_X9_inRange lk_X9_73 rfl ⟨by decide, by decide⟩ ⟨Nat.le_refl _, Nat.le_refl _⟩ rfl (Nat.le_of_ble_eq_true rfl) dX9_target_5 (st2 := [.int (S_X9_inRange ti 0 1000)]) rfl ?_
  refine q_if_ne (tgt := 14) X dX9_target_8 (by decide) (fun c1 => ?_) (fun c1 => ?_)
  · skip
    refine q_aload_n X 0 dX9_target_14 rfl ?_
    refine q_get (fk := 3) (v := .ref (gA G 3 0)) X cf_X9 (ac_0_0 hT_0) (by decide) fl_X9_32 rfl rfl dX9_target_15 rfl ?_
    refine q_geti (fk := 2) (x := (h 3) 0) X cf_X6 (ac_3_0 hT_3) (by decide) fl_X9_123 rfl rfl dX9_target_18 (rfl) rfl ?_
    suffices hJ4 : ∀ (m3 : Int32), m3 = (if ((h 3) 0) = 0 then ((-100009)) else (S_X6_valueOnLine (h 3) 8 ti)) → VV G (AA G) p l e { frames := 3, cells := 0, slots := 0, locals := 73 } s m ([.ref (gA G 0 0), .int ti] : List Value).toArray below meth c 0 0 (MQ below (QC G h (some (.int Z))) ([.ref (gA G 0 0), .int ti] : List Value).toArray s 0 0 (AA G)) 2 h 37 [(0, .ref (gA G 0 0)), (1, .int ti)] [.int m3] by
      refine q_if_ne (tgt := 29) X dX9_target_21 (by decide) (fun c2 => ?_) (fun c2 => ?_)
      · skip
        refine q_aload_n X 0 dX9_target_29 rfl ?_
        refine q_get (fk := 3) (v := .ref (gA G 3 0)) X cf_X9 (ac_0_0 hT_0) (by decide) fl_X9_32 rfl rfl dX9_target_30 rfl ?_
        refine q_iload_n X 1 dX9_target_33 rfl ?_
        refine q_callV (h1 := _) (rest := []) (As := [.int ti]) X (c_X6_valueOnLine (l := l) hG (ρ := (h 3)) (n := 8) ti hT_3 (rfl) (by rw [hT_3]; rfl)) mf_X6_valueOnLine mv_X6_valueOnLine cf_X6 rfl (ac_3_0 hT_3) lk_X9_211 rfl ⟨by decide, by decide⟩ ⟨Nat.le_refl _, Nat.le_refl _⟩ rfl (Nat.le_of_ble_eq_true rfl) dX9_target_34 (st2 := [.int (S_X6_valueOnLine (h 3) 8 ti)]) rfl ?_
        refine q_sub (lv2 := [(0, .ref (gA G 0 0)), (1, .int ti)]) [0, 1] rfl ?_
        exact hJ4 (S_X6_valueOnLine (h 3) 8 ti) (by exact ((if_neg c2).trans rfl).symm)
      · skip
        refine q_ldc X kc_X9_210 dX9_target_24 ?_
        refine q_goto (tgt := 37) X dX9_target_26 (by decide) ?_
        refine q_sub (lv2 := [(0, .ref (gA G 0 0)), (1, .int ti)]) [0, 1] rfl ?_
        exact hJ4 (-100009) (by exact ((if_pos c2).trans rfl).symm)
    intro m3 e_m3
    have E : Z = m3 := by subst e_m3; exact hZ.symm.trans ((if_neg c1).trans rfl)
    exact q_iret X hret dX9_target_37 (by rw [E]) rfl
  · skip
    refine q_ldc X kc_X9_77 dX9_target_11 ?_
    have E : Z = (-100001) := by exact hZ.symm.trans ((if_pos c1).trans rfl)
    exact q_iret X hret dX9_target_13 (by rw [E]) rfl
def S_X9_rate (h : Hp) (te : Int32) : Int32 := if (S_X9_inRange te 0 3000) = 0 then ((-100001)) else (S_X6_valueBelow (h 4) 6 te)
set_option maxRecDepth 100000 in
set_option maxHeartbeats 4000000 in
theorem c_X9_rate {G : Geo} {l : Launch} (hG : GOK G) {h : Hp} (te : Int32) (hK : KT G) : CM G l yX9_rate cX9_rate 2 (some .int) 3 66 [.ref (gA G 0 0), .int te] h h (some (.int (S_X9_rate h te))) := by
  obtain ⟨Z, hZ⟩ : ∃ Z, S_X9_rate h te = Z := ⟨_, rfl⟩
  rw [hZ]
  refine q_enter hG mf_X9_rate (Nat.le_of_ble_eq_true rfl) ?_
  intro p e s m below meth c X hret
  have hT_0 : gT G 0 = 0 := hK 0 (by decide)
  have hT_1 : gT G 1 = 1 := hK 1 (by decide)
  have hT_2 : gT G 2 = 2 := hK 2 (by decide)
  have hT_3 : gT G 3 = 3 := hK 3 (by decide)
  have hT_4 : gT G 4 = 3 := hK 4 (by decide)
  have hT_5 : gT G 5 = 5 := hK 5 (by decide)
  have hT_6 : gT G 6 = 2 := hK 6 (by decide)
  have hT_7 : gT G 7 = 6 := hK 7 (by decide)
  have hT_8 : gT G 8 = 7 := hK 8 (by decide)
  have hT_9 : gT G 9 = 3 := hK 9 (by decide)
  have hT_10 : gT G 10 = 8 := hK 10 (by decide)
  refine q_lv (lv2 := [(0, .ref (gA G 0 0)), (1, .int te)]) rfl ?_
  refine q_iload_n X 1 dX9_rate_0 rfl ?_
  refine q_iconst (v := 0) X dX9_rate_1 (by decide) ?_
  refine q_sipush (v := 3000) X dX9_rate_2 (by decide) ?_
  refine q_callS (h1 := _) (rest := []) (As := [.int te, .int 0, .int 3000]) X (c_X9_inRange (l := l) hG   te 0 3000 ) mf_X9_inRange ms_X9_inRange lk_X9_73 rfl ⟨by decide, by decide⟩ ⟨Nat.le_refl _, Nat.le_refl _⟩ rfl (Nat.le_of_ble_eq_true rfl) dX9_rate_5 (st2 := [.int (S_X9_inRange te 0 3000)]) rfl ?_
  refine q_if_ne (tgt := 14) X dX9_rate_8 (by decide) (fun c1 => ?_) (fun c1 => ?_)
  · skip
    refine q_aload_n X 0 dX9_rate_14 rfl ?_
    refine q_get (fk := 4) (v := .ref (gA G 4 0)) X cf_X9 (ac_0_0 hT_0) (by decide) fl_X9_36 rfl rfl dX9_rate_15 rfl ?_
    refine q_iload_n X 1 dX9_rate_18 rfl ?_
    refine q_callV (h1 := _) (rest := []) (As := [.int te]) X (c_X6_valueBelow (l := l) hG (ρ := (h 4)) (n := 6) te hT_4 (rfl) (by rw [hT_4]; rfl)) mf_X6_valueBelow mv_X6_valueBelow cf_X6 rfl (ac_3_0 hT_4) lk_X9_130 rfl ⟨by decide, by decide⟩ ⟨Nat.le_refl _, Nat.le_refl _⟩ rfl (Nat.le_of_ble_eq_true rfl) dX9_rate_19 (st2 := [.int (S_X6_valueBelow (h 4) 6 te)]) rfl ?_
    have E : Z = S_X6_valueBelow (h 4) 6 te := by exact hZ.symm.trans ((if_neg c1).trans rfl)
    exact q_iret X hret dX9_rate_22 (by rw [E]) rfl
  · skip
    refine q_ldc X kc_X9_77 dX9_rate_11 ?_
    have E : Z = (-100001) := by exact hZ.symm.trans ((if_pos c1).trans rfl)
    exact q_iret X hret dX9_rate_13 (by rw [E]) rfl
def S_X9_logged (h : Hp) (ix : Int32) (wh : Int32) : Int32 := if ix < 0 then ((-100001)) else (if (S_X9_inRange wh 0 5) = 0 then ((-100001)) else (if ((h 5) 1) ≤ ix then ((-100009)) else (S_X2_property (h 5) ix wh)))
set_option maxRecDepth 100000 in
set_option maxHeartbeats 4000000 in
theorem c_X9_logged {G : Geo} {l : Launch} (hG : GOK G) {h : Hp} (ix : Int32) (wh : Int32) (hK : KT G) : CM G l yX9_logged cX9_logged 3 (some .int) 2 43 [.ref (gA G 0 0), .int ix, .int wh] h h (some (.int (S_X9_logged h ix wh))) := by
  obtain ⟨Z, hZ⟩ : ∃ Z, S_X9_logged h ix wh = Z := ⟨_, rfl⟩
  rw [hZ]
  refine q_enter hG mf_X9_logged (Nat.le_of_ble_eq_true rfl) ?_
  intro p e s m below meth c X hret
  have hT_0 : gT G 0 = 0 := hK 0 (by decide)
  have hT_1 : gT G 1 = 1 := hK 1 (by decide)
  have hT_2 : gT G 2 = 2 := hK 2 (by decide)
  have hT_3 : gT G 3 = 3 := hK 3 (by decide)
  have hT_4 : gT G 4 = 3 := hK 4 (by decide)
  have hT_5 : gT G 5 = 5 := hK 5 (by decide)
  have hT_6 : gT G 6 = 2 := hK 6 (by decide)
  have hT_7 : gT G 7 = 6 := hK 7 (by decide)
  have hT_8 : gT G 8 = 7 := hK 8 (by decide)
  have hT_9 : gT G 9 = 3 := hK 9 (by decide)
  have hT_10 : gT G 10 = 8 := hK 10 (by decide)
  refine q_lv (lv2 := [(0, .ref (gA G 0 0)), (1, .int ix), (2, .int wh)]) rfl ?_
  refine q_iload_n X 1 dX9_logged_0 rfl ?_
  refine q_if_lt (tgt := 13) X dX9_logged_1 (by decide) (fun c1 => ?_) (fun c1 => ?_)
  · skip
    refine q_ldc X kc_X9_77 dX9_logged_13 ?_
    have E : Z = (-100001) := by exact hZ.symm.trans ((if_pos c1).trans rfl)
    exact q_iret X hret dX9_logged_15 (by rw [E]) rfl
  · skip
    refine q_iload_n X 2 dX9_logged_4 rfl ?_
    refine q_iconst (v := 0) X dX9_logged_5 (by decide) ?_
    refine q_iconst (v := 5) X dX9_logged_6 (by decide) ?_
    refine q_callS (h1 := _) (rest := []) (As := [.int wh, .int 0, .int 5]) X (c_X9_inRange (l := l) hG   wh 0 5 ) mf_X9_inRange ms_X9_inRange lk_X9_73 rfl ⟨by decide, by decide⟩ ⟨Nat.le_refl _, Nat.le_refl _⟩ rfl (Nat.le_of_ble_eq_true rfl) dX9_logged_7 (st2 := [.int (S_X9_inRange wh 0 5)]) rfl ?_
    refine q_if_ne (tgt := 16) X dX9_logged_10 (by decide) (fun c2 => ?_) (fun c2 => ?_)
    · skip
      refine q_iload_n X 1 dX9_logged_16 rfl ?_
      refine q_aload_n X 0 dX9_logged_17 rfl ?_
      refine q_get (fk := 5) (v := .ref (gA G 5 0)) X cf_X9 (ac_0_0 hT_0) (by decide) fl_X9_41 rfl rfl dX9_logged_18 rfl ?_
      refine q_geti (fk := 1) (x := (h 5) 1) X cf_X2 (ac_5_0 hT_5) (by decide) fl_X9_206 rfl rfl dX9_logged_21 (rfl) rfl ?_
      suffices hJ5 : ∀ (m4 : Int32), m4 = (if ((h 5) 1) ≤ ix then ((-100009)) else (S_X2_property (h 5) ix wh)) → VV G (AA G) p l e { frames := 2, cells := 0, slots := 0, locals := 43 } s m ([.ref (gA G 0 0), .int ix, .int wh] : List Value).toArray below meth c 0 0 (MQ below (QC G h (some (.int Z))) ([.ref (gA G 0 0), .int ix, .int wh] : List Value).toArray s 0 0 (AA G)) 3 h 41 [(0, .ref (gA G 0 0)), (1, .int ix), (2, .int wh)] [.int m4] by
        refine q_icmp_ge (tgt := 39) X dX9_logged_24 (by decide) (fun c3 => ?_) (fun c3 => ?_)
        · skip
          refine q_ldc X kc_X9_210 dX9_logged_39 ?_
          refine q_sub (lv2 := [(0, .ref (gA G 0 0)), (1, .int ix), (2, .int wh)]) [0, 1, 2] rfl ?_
          exact hJ5 (-100009) (by exact ((if_pos c3).trans rfl).symm)
        · skip
          refine q_aload_n X 0 dX9_logged_27 rfl ?_
          refine q_get (fk := 5) (v := .ref (gA G 5 0)) X cf_X9 (ac_0_0 hT_0) (by decide) fl_X9_41 rfl rfl dX9_logged_28 rfl ?_
          refine q_iload_n X 1 dX9_logged_31 rfl ?_
          refine q_iload_n X 2 dX9_logged_32 rfl ?_
          refine q_callV (h1 := _) (rest := []) (As := [.int ix, .int wh]) X (c_X2_property (l := l) hG (ρ := (h 5))  ix wh hT_5 (rfl)) mf_X2_property mv_X2_property cf_X2 rfl (ac_5_0 hT_5) lk_X9_214 rfl ⟨by decide, by decide⟩ ⟨Nat.le_refl _, Nat.le_refl _⟩ rfl (Nat.le_of_ble_eq_true rfl) dX9_logged_33 (st2 := [.int (S_X2_property (h 5) ix wh)]) rfl ?_
          refine q_goto (tgt := 41) X dX9_logged_36 (by decide) ?_
          refine q_sub (lv2 := [(0, .ref (gA G 0 0)), (1, .int ix), (2, .int wh)]) [0, 1, 2] rfl ?_
          exact hJ5 (S_X2_property (h 5) ix wh) (by exact ((if_neg c3).trans rfl).symm)
      intro m4 e_m4
      have E : Z = m4 := by subst e_m4; exact hZ.symm.trans ((if_neg c1).trans ((if_neg c2).trans rfl))
      exact q_iret X hret dX9_logged_41 (by rw [E]) rfl
    · skip
      refine q_ldc X kc_X9_77 dX9_logged_13 ?_
      have E : Z = (-100001) := by exact hZ.symm.trans ((if_neg c1).trans ((if_pos c2).trans rfl))
      exact q_iret X hret dX9_logged_15 (by rw [E]) rfl
def L_X9_ticksTo_41 (fu : Nat) (ρ : Nat → Int32) (π : Nat → Int32) (μ : Nat → Int32) (θ : Nat → Int32) (te : Int32) (k : Int32) (θ1 : Nat → Int32) : Int32 × (Nat → Int32) := match fu with
  | 0 => (0, (fun _ => 0))
  | fu + 1 => if 200 < k then (((-100009), θ1)) else (if (θ1 16) < te then (let r6 : Nat → Int32 := S_X4_tick θ1 π μ; L_X9_ticksTo_41 fu ρ π μ θ te (k + 1) r6) else ((k, θ1)))
def S_X9_ticksTo (ρ : Nat → Int32) (π : Nat → Int32) (μ : Nat → Int32) (θ : Nat → Int32) (te : Int32) : Int32 × (Nat → Int32) := if (S_X9_inRange te 0 3000) = 0 then (((-100001), θ)) else (if (ρ 1) = 1 then (let r3 : Nat → Int32 := S_X4_copyFrom θ ρ; L_X9_ticksTo_41 202 ρ π μ θ te 0 r3) else (((-100002), θ)))
set_option maxRecDepth 100000 in
set_option maxHeartbeats 4000000 in
theorem w_X9_ticksTo_41 {G : Geo} {p : Program} {l : Launch} {e : Env} {s : State} {m : MethodId} {args : Array Value} {below : List Frame} {meth : Method} {c : Code} {h : Hp} {ρ : Nat → Int32} {π : Nat → Int32} {μ : Nat → Int32} {θ : Nat → Int32} {te : Int32} (X : CX G (AA G) p s m meth c RX9 cX9_ticksTo 3) (hret : meth.sig.returnType = (some .int)) (hK : KT G) (hr_2 : h 2 = ρ) (hr_3 : h 3 = π) (hr_4 : h 4 = μ) (hr_6 : h 6 = θ) (Z : Int32 × (Nat → Int32)) : ∀ (fu : Nat) (k : Int32) (θ1 : Nat → Int32), ((200 : Int32).toInt + 1 - k.toInt).toNat < fu → L_X9_ticksTo_41 fu ρ π μ θ te k θ1 = Z → VV G (AA G) p l e { frames := 5, cells := 0, slots := 0, locals := 123 } s m args below meth c 0 0 (MQ below (QC G (va_up h 6 Z.2) (some (.int Z.1))) args s 0 0 (AA G)) 3 (va_up h 6 θ1) 41 [(0, .ref (gA G 0 0)), (1, .int te), (2, .int k)] [] := by
  intro fu
  induction fu with
  | zero =>
    intro k θ1  hm
    exact absurd hm (Nat.not_lt_zero _)
  | succ fu ih =>
    intro k θ1  hm hZ
    have hG := X.2.2.2.2.2.1
    have hT_0 : gT G 0 = 0 := hK 0 (by decide)
    have hT_2 : gT G 2 = 2 := hK 2 (by decide)
    have hT_3 : gT G 3 = 3 := hK 3 (by decide)
    have hT_4 : gT G 4 = 3 := hK 4 (by decide)
    have hT_6 : gT G 6 = 2 := hK 6 (by decide)
    refine q_iload_n X 2 dX9_ticksTo_41 rfl ?_
    refine q_sipush (v := 200) X dX9_ticksTo_42 (by decide) ?_
    refine q_icmp_gt (tgt := 85) X dX9_ticksTo_45 (by decide) (fun c4 => ?_) (fun c4 => ?_)
    · skip
      refine q_ldc X kc_X9_210 dX9_ticksTo_85 ?_
      have E : Z = ((-100009), θ1) := by exact hZ.symm.trans ((if_pos c4).trans rfl)
      exact q_iret X hret dX9_ticksTo_87 (by rw [E]) (by rw [E])
    · skip
      refine q_aload_n X 0 dX9_ticksTo_48 rfl ?_
      refine q_get (fk := 9) (v := .ref (gA G 6 0)) X cf_X9 (ac_0_0 hT_0) (by decide) fl_X9_64 rfl rfl dX9_ticksTo_49 rfl ?_
      refine q_get (fk := 1) (v := .ref (gA G 6 2)) X cf_X4 (ac_2_0 hT_6) (by decide) fl_X9_165 rfl rfl dX9_ticksTo_52 rfl ?_
      refine q_geti (fk := 0) (x := θ1 16) X cf_X0 (ac_2_2 hT_6) (by decide) fl_X9_186 rfl rfl dX9_ticksTo_55 (va_up_self _ _ _) rfl ?_
      refine q_iload_n X 1 dX9_ticksTo_58 rfl ?_
      refine q_icmp_lt (tgt := 64) X dX9_ticksTo_59 (by decide) (fun c5 => ?_) (fun c5 => ?_)
      · skip
        refine q_aload_n X 0 dX9_ticksTo_64 rfl ?_
        refine q_get (fk := 9) (v := .ref (gA G 6 0)) X cf_X9 (ac_0_0 hT_0) (by decide) fl_X9_64 rfl rfl dX9_ticksTo_65 rfl ?_
        refine q_aload_n X 0 dX9_ticksTo_68 rfl ?_
        refine q_get (fk := 3) (v := .ref (gA G 3 0)) X cf_X9 (ac_0_0 hT_0) (by decide) fl_X9_32 rfl rfl dX9_ticksTo_69 rfl ?_
        refine q_aload_n X 0 dX9_ticksTo_72 rfl ?_
        refine q_get (fk := 4) (v := .ref (gA G 4 0)) X cf_X9 (ac_0_0 hT_0) (by decide) fl_X9_36 rfl rfl dX9_ticksTo_73 rfl ?_
        obtain ⟨r6, e_r6⟩ : ∃ z : Nat → Int32, z = S_X4_tick θ1 π μ := ⟨_, rfl⟩
        refine q_callV (h1 := _) (rest := []) (As := [.ref (gA G 3 0), .ref (gA G 4 0)]) X (c_X4_tick (l := l) hG (ρ := θ1) (π := π) (μ := μ)   hK hT_6 (va_up_self _ _ _) ((va_up_ne _ _ (by decide)).trans (hr_3)) ((va_up_ne _ _ (by decide)).trans (hr_4))) mf_X4_tick mv_X4_tick cf_X4 rfl (ac_2_0 hT_6) lk_X9_192 rfl ⟨by decide, by decide⟩ ⟨Nat.le_refl _, Nat.le_refl _⟩ rfl (Nat.le_of_ble_eq_true rfl) dX9_ticksTo_76 (st2 := []) rfl ?_
        refine q_eq (h2 := va_up h 6 r6) (by rw [e_r6]; exact va_up_up _ _ _ _) rfl ?_
        refine q_iinc (v := k + 1) (lv' := [(2, .int (k + 1)), (0, .ref (gA G 0 0)), (1, .int te)]) X 2 dX9_ticksTo_79 rfl rfl (by decide) rfl ?_
        refine q_goto (tgt := 41) X dX9_ticksTo_82 (by decide) ?_
        refine q_sub (lv2 := [(0, .ref (gA G 0 0)), (1, .int te), (2, .int (k + 1))]) [1, 2, 0] rfl ?_
        have E : L_X9_ticksTo_41 fu ρ π μ θ te (k + 1) r6 = Z := Eq.trans (Eq.symm (by subst e_r6; exact (if_neg c4).trans ((if_pos c5).trans rfl))) hZ
        exact ih (k + 1) r6  (by subst e_r6; exact ms_gt (by decide) c4 hm) E
      · skip
        refine q_iload_n X 2 dX9_ticksTo_62 rfl ?_
        have E : Z = (k, θ1) := by exact hZ.symm.trans ((if_neg c4).trans ((if_neg c5).trans rfl))
        exact q_iret X hret dX9_ticksTo_63 (by rw [E]) (by rw [E])
set_option maxRecDepth 100000 in
set_option maxHeartbeats 4000000 in
theorem c_X9_ticksTo {G : Geo} {l : Launch} (hG : GOK G) {h : Hp} {ρ : Nat → Int32} {π : Nat → Int32} {μ : Nat → Int32} {θ : Nat → Int32} (te : Int32) (hK : KT G) (hr_2 : h 2 = ρ) (hr_3 : h 3 = π) (hr_4 : h 4 = μ) (hr_6 : h 6 = θ) : CM G l yX9_ticksTo cX9_ticksTo 3 (some .int) 5 123 [.ref (gA G 0 0), .int te] h (va_up h 6 ((S_X9_ticksTo ρ π μ θ te).2)) (some (.int ((S_X9_ticksTo ρ π μ θ te).1))) := by
  obtain ⟨Z, hZ⟩ : ∃ Z, S_X9_ticksTo ρ π μ θ te = Z := ⟨_, rfl⟩
  rw [hZ]
  refine q_enter hG mf_X9_ticksTo (Nat.le_of_ble_eq_true rfl) ?_
  intro p e s m below meth c X hret
  have hT_0 : gT G 0 = 0 := hK 0 (by decide)
  have hT_2 : gT G 2 = 2 := hK 2 (by decide)
  have hT_3 : gT G 3 = 3 := hK 3 (by decide)
  have hT_4 : gT G 4 = 3 := hK 4 (by decide)
  have hT_6 : gT G 6 = 2 := hK 6 (by decide)
  refine q_lv (lv2 := [(0, .ref (gA G 0 0)), (1, .int te)]) rfl ?_
  refine q_iload_n X 1 dX9_ticksTo_0 rfl ?_
  refine q_iconst (v := 0) X dX9_ticksTo_1 (by decide) ?_
  refine q_sipush (v := 3000) X dX9_ticksTo_2 (by decide) ?_
  refine q_callS (h1 := _) (rest := []) (As := [.int te, .int 0, .int 3000]) X (c_X9_inRange (l := l) hG   te 0 3000 ) mf_X9_inRange ms_X9_inRange lk_X9_73 rfl ⟨by decide, by decide⟩ ⟨Nat.le_refl _, Nat.le_refl _⟩ rfl (Nat.le_of_ble_eq_true rfl) dX9_ticksTo_5 (st2 := [.int (S_X9_inRange te 0 3000)]) rfl ?_
  refine q_if_ne (tgt := 14) X dX9_ticksTo_8 (by decide) (fun c1 => ?_) (fun c1 => ?_)
  · skip
    refine q_aload_n X 0 dX9_ticksTo_14 rfl ?_
    refine q_get (fk := 1) (v := .ref (gA G 2 0)) X cf_X9 (ac_0_0 hT_0) (by decide) fl_X9_20 rfl rfl dX9_ticksTo_15 rfl ?_
    refine q_geti (fk := 3) (x := ρ 1) X cf_X4 (ac_2_0 hT_2) (by decide) fl_X9_156 rfl rfl dX9_ticksTo_18 (hr_2) rfl ?_
    refine q_iconst (v := 1) X dX9_ticksTo_21 (by decide) ?_
    refine q_icmp_eq (tgt := 28) X dX9_ticksTo_22 (by decide) (fun c2 => ?_) (fun c2 => ?_)
    · skip
      refine q_aload_n X 0 dX9_ticksTo_28 rfl ?_
      refine q_get (fk := 9) (v := .ref (gA G 6 0)) X cf_X9 (ac_0_0 hT_0) (by decide) fl_X9_64 rfl rfl dX9_ticksTo_29 rfl ?_
      refine q_aload_n X 0 dX9_ticksTo_32 rfl ?_
      refine q_get (fk := 1) (v := .ref (gA G 2 0)) X cf_X9 (ac_0_0 hT_0) (by decide) fl_X9_20 rfl rfl dX9_ticksTo_33 rfl ?_
      obtain ⟨r3, e_r3⟩ : ∃ z : Nat → Int32, z = S_X4_copyFrom θ ρ := ⟨_, rfl⟩
      refine q_callV (h1 := _) (rest := []) (As := [.ref (gA G 2 0)]) X (c_X4_copyFrom (l := l) hG (ρ := θ) (ρ2 := ρ)   hT_6 hT_2 (hr_6) (hr_2) (by decide)) mf_X4_copyFrom mv_X4_copyFrom cf_X4 rfl (ac_2_0 hT_6) lk_X9_220 rfl ⟨by decide, by decide⟩ ⟨Nat.le_refl _, Nat.le_refl _⟩ rfl (Nat.le_of_ble_eq_true rfl) dX9_ticksTo_36 (st2 := []) rfl ?_
      refine q_eq (h2 := va_up h 6 r3) (by rw [e_r3]) rfl ?_
      refine q_iconst (v := 0) X dX9_ticksTo_39 (by decide) ?_
      refine q_istore_n (lv' := [(2, .int 0), (0, .ref (gA G 0 0)), (1, .int te)]) X dX9_ticksTo_40 (by decide) rfl ?_
      refine q_sub (lv2 := [(0, .ref (gA G 0 0)), (1, .int te), (2, .int 0)]) [1, 2, 0] rfl ?_
      have E : L_X9_ticksTo_41 202 ρ π μ θ te 0 r3 = Z := Eq.trans (Eq.symm (by subst e_r3; exact (if_neg c1).trans ((if_pos c2).trans rfl))) hZ
      exact w_X9_ticksTo_41 X hret hK hr_2 hr_3 hr_4 hr_6 Z 202 0 r3  (by subst e_r3; decide) E
    · skip
      refine q_ldc X kc_X9_129 dX9_ticksTo_25 ?_
      have E : Z = ((-100002), θ) := by exact hZ.symm.trans ((if_neg c1).trans ((if_neg c2).trans rfl))
      exact q_iret X hret dX9_ticksTo_27 (by rw [E]) (by rw [E]; exact va_up_id2 (hr_6))
  · skip
    refine q_ldc X kc_X9_77 dX9_ticksTo_11 ?_
    have E : Z = ((-100001), θ) := by exact hZ.symm.trans ((if_pos c1).trans rfl)
    exact q_iret X hret dX9_ticksTo_13 (by rw [E]) (by rw [E]; exact va_up_id2 (hr_6))
def L_X9_ticksToLoss_40 (fu : Nat) (ρ : Nat → Int32) (π : Nat → Int32) (μ : Nat → Int32) (θ : Nat → Int32) (lo : Int32) (k : Int32) (θ1 : Nat → Int32) : Int32 × (Nat → Int32) := match fu with
  | 0 => (0, (fun _ => 0))
  | fu + 1 => if 200 < k then (((-100009), θ1)) else (if (θ1 19) < lo then (let r6 : Nat → Int32 := S_X4_tick θ1 π μ; L_X9_ticksToLoss_40 fu ρ π μ θ lo (k + 1) r6) else ((k, θ1)))
def S_X9_ticksToLoss (ρ : Nat → Int32) (π : Nat → Int32) (μ : Nat → Int32) (θ : Nat → Int32) (lo : Int32) : Int32 × (Nat → Int32) := if (S_X9_inRange lo 0 100000) = 0 then (((-100001), θ)) else (if (ρ 1) = 1 then (let r3 : Nat → Int32 := S_X4_copyFrom θ ρ; L_X9_ticksToLoss_40 202 ρ π μ θ lo 0 r3) else (((-100002), θ)))
set_option maxRecDepth 100000 in
set_option maxHeartbeats 4000000 in
theorem w_X9_ticksToLoss_40 {G : Geo} {p : Program} {l : Launch} {e : Env} {s : State} {m : MethodId} {args : Array Value} {below : List Frame} {meth : Method} {c : Code} {h : Hp} {ρ : Nat → Int32} {π : Nat → Int32} {μ : Nat → Int32} {θ : Nat → Int32} {lo : Int32} (X : CX G (AA G) p s m meth c RX9 cX9_ticksToLoss 3) (hret : meth.sig.returnType = (some .int)) (hK : KT G) (hr_2 : h 2 = ρ) (hr_3 : h 3 = π) (hr_4 : h 4 = μ) (hr_6 : h 6 = θ) (Z : Int32 × (Nat → Int32)) : ∀ (fu : Nat) (k : Int32) (θ1 : Nat → Int32), ((200 : Int32).toInt + 1 - k.toInt).toNat < fu → L_X9_ticksToLoss_40 fu ρ π μ θ lo k θ1 = Z → VV G (AA G) p l e { frames := 5, cells := 0, slots := 0, locals := 123 } s m args below meth c 0 0 (MQ below (QC G (va_up h 6 Z.2) (some (.int Z.1))) args s 0 0 (AA G)) 3 (va_up h 6 θ1) 40 [(0, .ref (gA G 0 0)), (1, .int lo), (2, .int k)] [] := by
  intro fu
  induction fu with
  | zero =>
    intro k θ1  hm
    exact absurd hm (Nat.not_lt_zero _)
  | succ fu ih =>
    intro k θ1  hm hZ
    have hG := X.2.2.2.2.2.1
    have hT_0 : gT G 0 = 0 := hK 0 (by decide)
    have hT_2 : gT G 2 = 2 := hK 2 (by decide)
    have hT_3 : gT G 3 = 3 := hK 3 (by decide)
    have hT_4 : gT G 4 = 3 := hK 4 (by decide)
    have hT_6 : gT G 6 = 2 := hK 6 (by decide)
    refine q_iload_n X 2 dX9_ticksToLoss_40 rfl ?_
    refine q_sipush (v := 200) X dX9_ticksToLoss_41 (by decide) ?_
    refine q_icmp_gt (tgt := 84) X dX9_ticksToLoss_44 (by decide) (fun c4 => ?_) (fun c4 => ?_)
    · skip
      refine q_ldc X kc_X9_210 dX9_ticksToLoss_84 ?_
      have E : Z = ((-100009), θ1) := by exact hZ.symm.trans ((if_pos c4).trans rfl)
      exact q_iret X hret dX9_ticksToLoss_86 (by rw [E]) (by rw [E])
    · skip
      refine q_aload_n X 0 dX9_ticksToLoss_47 rfl ?_
      refine q_get (fk := 9) (v := .ref (gA G 6 0)) X cf_X9 (ac_0_0 hT_0) (by decide) fl_X9_64 rfl rfl dX9_ticksToLoss_48 rfl ?_
      refine q_get (fk := 1) (v := .ref (gA G 6 2)) X cf_X4 (ac_2_0 hT_6) (by decide) fl_X9_165 rfl rfl dX9_ticksToLoss_51 rfl ?_
      refine q_geti (fk := 3) (x := θ1 19) X cf_X0 (ac_2_2 hT_6) (by decide) fl_X9_181 rfl rfl dX9_ticksToLoss_54 (va_up_self _ _ _) rfl ?_
      refine q_iload_n X 1 dX9_ticksToLoss_57 rfl ?_
      refine q_icmp_lt (tgt := 63) X dX9_ticksToLoss_58 (by decide) (fun c5 => ?_) (fun c5 => ?_)
      · skip
        refine q_aload_n X 0 dX9_ticksToLoss_63 rfl ?_
        refine q_get (fk := 9) (v := .ref (gA G 6 0)) X cf_X9 (ac_0_0 hT_0) (by decide) fl_X9_64 rfl rfl dX9_ticksToLoss_64 rfl ?_
        refine q_aload_n X 0 dX9_ticksToLoss_67 rfl ?_
        refine q_get (fk := 3) (v := .ref (gA G 3 0)) X cf_X9 (ac_0_0 hT_0) (by decide) fl_X9_32 rfl rfl dX9_ticksToLoss_68 rfl ?_
        refine q_aload_n X 0 dX9_ticksToLoss_71 rfl ?_
        refine q_get (fk := 4) (v := .ref (gA G 4 0)) X cf_X9 (ac_0_0 hT_0) (by decide) fl_X9_36 rfl rfl dX9_ticksToLoss_72 rfl ?_
        obtain ⟨r6, e_r6⟩ : ∃ z : Nat → Int32, z = S_X4_tick θ1 π μ := ⟨_, rfl⟩
        refine q_callV (h1 := _) (rest := []) (As := [.ref (gA G 3 0), .ref (gA G 4 0)]) X (c_X4_tick (l := l) hG (ρ := θ1) (π := π) (μ := μ)   hK hT_6 (va_up_self _ _ _) ((va_up_ne _ _ (by decide)).trans (hr_3)) ((va_up_ne _ _ (by decide)).trans (hr_4))) mf_X4_tick mv_X4_tick cf_X4 rfl (ac_2_0 hT_6) lk_X9_192 rfl ⟨by decide, by decide⟩ ⟨Nat.le_refl _, Nat.le_refl _⟩ rfl (Nat.le_of_ble_eq_true rfl) dX9_ticksToLoss_75 (st2 := []) rfl ?_
        refine q_eq (h2 := va_up h 6 r6) (by rw [e_r6]; exact va_up_up _ _ _ _) rfl ?_
        refine q_iinc (v := k + 1) (lv' := [(2, .int (k + 1)), (0, .ref (gA G 0 0)), (1, .int lo)]) X 2 dX9_ticksToLoss_78 rfl rfl (by decide) rfl ?_
        refine q_goto (tgt := 40) X dX9_ticksToLoss_81 (by decide) ?_
        refine q_sub (lv2 := [(0, .ref (gA G 0 0)), (1, .int lo), (2, .int (k + 1))]) [1, 2, 0] rfl ?_
        have E : L_X9_ticksToLoss_40 fu ρ π μ θ lo (k + 1) r6 = Z := Eq.trans (Eq.symm (by subst e_r6; exact (if_neg c4).trans ((if_pos c5).trans rfl))) hZ
        exact ih (k + 1) r6  (by subst e_r6; exact ms_gt (by decide) c4 hm) E
      · skip
        refine q_iload_n X 2 dX9_ticksToLoss_61 rfl ?_
        have E : Z = (k, θ1) := by exact hZ.symm.trans ((if_neg c4).trans ((if_neg c5).trans rfl))
        exact q_iret X hret dX9_ticksToLoss_62 (by rw [E]) (by rw [E])
set_option maxRecDepth 100000 in
set_option maxHeartbeats 4000000 in
theorem c_X9_ticksToLoss {G : Geo} {l : Launch} (hG : GOK G) {h : Hp} {ρ : Nat → Int32} {π : Nat → Int32} {μ : Nat → Int32} {θ : Nat → Int32} (lo : Int32) (hK : KT G) (hr_2 : h 2 = ρ) (hr_3 : h 3 = π) (hr_4 : h 4 = μ) (hr_6 : h 6 = θ) : CM G l yX9_ticksToLoss cX9_ticksToLoss 3 (some .int) 5 123 [.ref (gA G 0 0), .int lo] h (va_up h 6 ((S_X9_ticksToLoss ρ π μ θ lo).2)) (some (.int ((S_X9_ticksToLoss ρ π μ θ lo).1))) := by
  obtain ⟨Z, hZ⟩ : ∃ Z, S_X9_ticksToLoss ρ π μ θ lo = Z := ⟨_, rfl⟩
  rw [hZ]
  refine q_enter hG mf_X9_ticksToLoss (Nat.le_of_ble_eq_true rfl) ?_
  intro p e s m below meth c X hret
  have hT_0 : gT G 0 = 0 := hK 0 (by decide)
  have hT_2 : gT G 2 = 2 := hK 2 (by decide)
  have hT_3 : gT G 3 = 3 := hK 3 (by decide)
  have hT_4 : gT G 4 = 3 := hK 4 (by decide)
  have hT_6 : gT G 6 = 2 := hK 6 (by decide)
  refine q_lv (lv2 := [(0, .ref (gA G 0 0)), (1, .int lo)]) rfl ?_
  refine q_iload_n X 1 dX9_ticksToLoss_0 rfl ?_
  refine q_iconst (v := 0) X dX9_ticksToLoss_1 (by decide) ?_
  refine q_ldc X kc_X9_223 dX9_ticksToLoss_2 ?_
  refine q_callS (h1 := _) (rest := []) (As := [.int lo, .int 0, .int 100000]) X (c_X9_inRange (l := l) hG   lo 0 100000 ) mf_X9_inRange ms_X9_inRange lk_X9_73 rfl ⟨by decide, by decide⟩ ⟨Nat.le_refl _, Nat.le_refl _⟩ rfl (Nat.le_of_ble_eq_true rfl) dX9_ticksToLoss_4 (st2 := [.int (S_X9_inRange lo 0 100000)]) rfl ?_
  refine q_if_ne (tgt := 13) X dX9_ticksToLoss_7 (by decide) (fun c1 => ?_) (fun c1 => ?_)
  · skip
    refine q_aload_n X 0 dX9_ticksToLoss_13 rfl ?_
    refine q_get (fk := 1) (v := .ref (gA G 2 0)) X cf_X9 (ac_0_0 hT_0) (by decide) fl_X9_20 rfl rfl dX9_ticksToLoss_14 rfl ?_
    refine q_geti (fk := 3) (x := ρ 1) X cf_X4 (ac_2_0 hT_2) (by decide) fl_X9_156 rfl rfl dX9_ticksToLoss_17 (hr_2) rfl ?_
    refine q_iconst (v := 1) X dX9_ticksToLoss_20 (by decide) ?_
    refine q_icmp_eq (tgt := 27) X dX9_ticksToLoss_21 (by decide) (fun c2 => ?_) (fun c2 => ?_)
    · skip
      refine q_aload_n X 0 dX9_ticksToLoss_27 rfl ?_
      refine q_get (fk := 9) (v := .ref (gA G 6 0)) X cf_X9 (ac_0_0 hT_0) (by decide) fl_X9_64 rfl rfl dX9_ticksToLoss_28 rfl ?_
      refine q_aload_n X 0 dX9_ticksToLoss_31 rfl ?_
      refine q_get (fk := 1) (v := .ref (gA G 2 0)) X cf_X9 (ac_0_0 hT_0) (by decide) fl_X9_20 rfl rfl dX9_ticksToLoss_32 rfl ?_
      obtain ⟨r3, e_r3⟩ : ∃ z : Nat → Int32, z = S_X4_copyFrom θ ρ := ⟨_, rfl⟩
      refine q_callV (h1 := _) (rest := []) (As := [.ref (gA G 2 0)]) X (c_X4_copyFrom (l := l) hG (ρ := θ) (ρ2 := ρ)   hT_6 hT_2 (hr_6) (hr_2) (by decide)) mf_X4_copyFrom mv_X4_copyFrom cf_X4 rfl (ac_2_0 hT_6) lk_X9_220 rfl ⟨by decide, by decide⟩ ⟨Nat.le_refl _, Nat.le_refl _⟩ rfl (Nat.le_of_ble_eq_true rfl) dX9_ticksToLoss_35 (st2 := []) rfl ?_
      refine q_eq (h2 := va_up h 6 r3) (by rw [e_r3]) rfl ?_
      refine q_iconst (v := 0) X dX9_ticksToLoss_38 (by decide) ?_
      refine q_istore_n (lv' := [(2, .int 0), (0, .ref (gA G 0 0)), (1, .int lo)]) X dX9_ticksToLoss_39 (by decide) rfl ?_
      refine q_sub (lv2 := [(0, .ref (gA G 0 0)), (1, .int lo), (2, .int 0)]) [1, 2, 0] rfl ?_
      have E : L_X9_ticksToLoss_40 202 ρ π μ θ lo 0 r3 = Z := Eq.trans (Eq.symm (by subst e_r3; exact (if_neg c1).trans ((if_pos c2).trans rfl))) hZ
      exact w_X9_ticksToLoss_40 X hret hK hr_2 hr_3 hr_4 hr_6 Z 202 0 r3  (by subst e_r3; decide) E
    · skip
      refine q_ldc X kc_X9_129 dX9_ticksToLoss_24 ?_
      have E : Z = ((-100002), θ) := by exact hZ.symm.trans ((if_neg c1).trans ((if_neg c2).trans rfl))
      exact q_iret X hret dX9_ticksToLoss_26 (by rw [E]) (by rw [E]; exact va_up_id2 (hr_6))
  · skip
    refine q_ldc X kc_X9_77 dX9_ticksToLoss_10 ?_
    have E : Z = ((-100001), θ) := by exact hZ.symm.trans ((if_pos c1).trans rfl)
    exact q_iret X hret dX9_ticksToLoss_12 (by rw [E]) (by rw [E]; exact va_up_id2 (hr_6))
def L_X9_deviationWith_38 (fu : Nat) (ρ : Nat → Int32) (π : Nat → Int32) (μ : Nat → Int32) (θ : Nat → Int32) (bi : Int32) (ti : Int32) (de : Int32) (k : Int32) (θ1 : Nat → Int32) : Int32 × (Nat → Int32) := match fu with
  | 0 => (0, (fun _ => 0))
  | fu + 1 => if ti ≤ k then ((de, θ1)) else (let r5 : Nat → Int32 := S_X4_tick θ1 π μ; L_X9_deviationWith_38 fu ρ π μ θ bi ti (de + (S_J9_abs_0f7a4 ((S_X6_valueOnLine π 8 (r5 18)) - (r5 4)))) (k + 1) r5)
def S_X9_deviationWith (ρ : Nat → Int32) (π : Nat → Int32) (μ : Nat → Int32) (θ : Nat → Int32) (bi : Int32) (ti : Int32) : Int32 × (Nat → Int32) := let r1 : Nat → Int32 := S_X4_copyFrom θ ρ; let r2 : Nat → Int32 := va_up r1 9 1; let r3 : Nat → Int32 := va_up r2 12 bi; L_X9_deviationWith_38 ((ti.toInt - (0 : Int32).toInt).toNat + 1) ρ π μ θ bi ti 0 0 r3
set_option maxRecDepth 100000 in
set_option maxHeartbeats 4000000 in
theorem w_X9_deviationWith_38 {G : Geo} {p : Program} {l : Launch} {e : Env} {s : State} {m : MethodId} {args : Array Value} {below : List Frame} {meth : Method} {c : Code} {h : Hp} {ρ : Nat → Int32} {π : Nat → Int32} {μ : Nat → Int32} {θ : Nat → Int32} {bi : Int32} {ti : Int32} (X : CX G (AA G) p s m meth c RX9 cX9_deviationWith 5) (hret : meth.sig.returnType = (some .int)) (hK : KT G) (hr_2 : h 2 = ρ) (hr_3 : h 3 = π) (hr_4 : h 4 = μ) (hr_6 : h 6 = θ) (Z : Int32 × (Nat → Int32)) : ∀ (fu : Nat) (de : Int32) (k : Int32) (θ1 : Nat → Int32), (ti.toInt - k.toInt).toNat < fu → L_X9_deviationWith_38 fu ρ π μ θ bi ti de k θ1 = Z → VV G (AA G) p l e { frames := 5, cells := 0, slots := 0, locals := 123 } s m args below meth c 0 0 (MQ below (QC G (va_up h 6 Z.2) (some (.int Z.1))) args s 0 0 (AA G)) 5 (va_up h 6 θ1) 38 [(0, .ref (gA G 0 0)), (1, .int bi), (2, .int ti), (3, .int de), (4, .int k)] [] := by
  intro fu
  induction fu with
  | zero =>
    intro de k θ1  hm
    exact absurd hm (Nat.not_lt_zero _)
  | succ fu ih =>
    intro de k θ1  hm hZ
    have hG := X.2.2.2.2.2.1
    have hT_0 : gT G 0 = 0 := hK 0 (by decide)
    have hT_2 : gT G 2 = 2 := hK 2 (by decide)
    have hT_3 : gT G 3 = 3 := hK 3 (by decide)
    have hT_4 : gT G 4 = 3 := hK 4 (by decide)
    have hT_6 : gT G 6 = 2 := hK 6 (by decide)
    refine q_iload X 4 dX9_deviationWith_38 rfl ?_
    refine q_iload_n X 2 dX9_deviationWith_40 rfl ?_
    refine q_icmp_ge (tgt := 96) X dX9_deviationWith_41 (by decide) (fun c4 => ?_) (fun c4 => ?_)
    · skip
      refine q_iload_n X 3 dX9_deviationWith_96 rfl ?_
      have E : Z = (de, θ1) := by exact hZ.symm.trans ((if_pos c4).trans rfl)
      exact q_iret X hret dX9_deviationWith_97 (by rw [E]) (by rw [E])
    · skip
      refine q_aload_n X 0 dX9_deviationWith_44 rfl ?_
      refine q_get (fk := 9) (v := .ref (gA G 6 0)) X cf_X9 (ac_0_0 hT_0) (by decide) fl_X9_64 rfl rfl dX9_deviationWith_45 rfl ?_
      refine q_aload_n X 0 dX9_deviationWith_48 rfl ?_
      refine q_get (fk := 3) (v := .ref (gA G 3 0)) X cf_X9 (ac_0_0 hT_0) (by decide) fl_X9_32 rfl rfl dX9_deviationWith_49 rfl ?_
      refine q_aload_n X 0 dX9_deviationWith_52 rfl ?_
      refine q_get (fk := 4) (v := .ref (gA G 4 0)) X cf_X9 (ac_0_0 hT_0) (by decide) fl_X9_36 rfl rfl dX9_deviationWith_53 rfl ?_
      obtain ⟨r5, e_r5⟩ : ∃ z : Nat → Int32, z = S_X4_tick θ1 π μ := ⟨_, rfl⟩
      refine q_callV (h1 := _) (rest := []) (As := [.ref (gA G 3 0), .ref (gA G 4 0)]) X (c_X4_tick (l := l) hG (ρ := θ1) (π := π) (μ := μ)   hK hT_6 (va_up_self _ _ _) ((va_up_ne _ _ (by decide)).trans (hr_3)) ((va_up_ne _ _ (by decide)).trans (hr_4))) mf_X4_tick mv_X4_tick cf_X4 rfl (ac_2_0 hT_6) lk_X9_192 rfl ⟨by decide, by decide⟩ ⟨Nat.le_refl _, Nat.le_refl _⟩ rfl (Nat.le_of_ble_eq_true rfl) dX9_deviationWith_56 (st2 := []) rfl ?_
      refine q_eq (h2 := va_up h 6 r5) (by rw [e_r5]; exact va_up_up _ _ _ _) rfl ?_
      refine q_iload_n X 3 dX9_deviationWith_59 rfl ?_
      refine q_aload_n X 0 dX9_deviationWith_60 rfl ?_
      refine q_get (fk := 3) (v := .ref (gA G 3 0)) X cf_X9 (ac_0_0 hT_0) (by decide) fl_X9_32 rfl rfl dX9_deviationWith_61 rfl ?_
      refine q_aload_n X 0 dX9_deviationWith_64 rfl ?_
      refine q_get (fk := 9) (v := .ref (gA G 6 0)) X cf_X9 (ac_0_0 hT_0) (by decide) fl_X9_64 rfl rfl dX9_deviationWith_65 rfl ?_
      refine q_get (fk := 1) (v := .ref (gA G 6 2)) X cf_X4 (ac_2_0 hT_6) (by decide) fl_X9_165 rfl rfl dX9_deviationWith_68 rfl ?_
      refine q_geti (fk := 2) (x := r5 18) X cf_X0 (ac_2_2 hT_6) (by decide) fl_X9_227 rfl rfl dX9_deviationWith_71 (va_up_self _ _ _) rfl ?_
      refine q_callV (h1 := _) (rest := [.int de]) (As := [.int (r5 18)]) X (c_X6_valueOnLine (l := l) hG (ρ := π) (n := 8) (r5 18) hT_3 ((va_up_ne _ _ (by decide)).trans (hr_3)) (by rw [hT_3]; rfl)) mf_X6_valueOnLine mv_X6_valueOnLine cf_X6 rfl (ac_3_0 hT_3) lk_X9_211 rfl ⟨by decide, by decide⟩ ⟨Nat.le_refl _, Nat.le_refl _⟩ rfl (Nat.le_of_ble_eq_true rfl) dX9_deviationWith_74 (st2 := [.int (S_X6_valueOnLine π 8 (r5 18)), .int de]) rfl ?_
      refine q_aload_n X 0 dX9_deviationWith_77 rfl ?_
      refine q_get (fk := 9) (v := .ref (gA G 6 0)) X cf_X9 (ac_0_0 hT_0) (by decide) fl_X9_64 rfl rfl dX9_deviationWith_78 rfl ?_
      refine q_geti (fk := 5) (x := r5 4) X cf_X4 (ac_2_0 hT_6) (by decide) fl_X9_196 rfl rfl dX9_deviationWith_81 (va_up_self _ _ _) rfl ?_
      refine q_isub X dX9_deviationWith_84 ?_
      refine q_callS (h1 := _) (rest := [.int de]) (As := [.int ((S_X6_valueOnLine π 8 (r5 18)) - (r5 4))]) X (c_J9_abs_0f7a4 (l := l) hG   ((S_X6_valueOnLine π 8 (r5 18)) - (r5 4)) ) mf_J9_abs_0f7a4 ms_J9_abs_0f7a4 lk_X9_230 rfl ⟨by decide, by decide⟩ ⟨Nat.le_refl _, Nat.le_refl _⟩ rfl (Nat.le_of_ble_eq_true rfl) dX9_deviationWith_85 (st2 := [.int (S_J9_abs_0f7a4 ((S_X6_valueOnLine π 8 (r5 18)) - (r5 4))), .int de]) rfl ?_
      refine q_iadd X dX9_deviationWith_88 ?_
      refine q_istore_n (lv' := [(3, .int (de + (S_J9_abs_0f7a4 ((S_X6_valueOnLine π 8 (r5 18)) - (r5 4))))), (0, .ref (gA G 0 0)), (1, .int bi), (2, .int ti), (4, .int k)]) X dX9_deviationWith_89 (by decide) rfl ?_
      refine q_iinc (v := k + 1) (lv' := [(4, .int (k + 1)), (3, .int (de + (S_J9_abs_0f7a4 ((S_X6_valueOnLine π 8 (r5 18)) - (r5 4))))), (0, .ref (gA G 0 0)), (1, .int bi), (2, .int ti)]) X 4 dX9_deviationWith_90 rfl rfl (by decide) rfl ?_
      refine q_goto (tgt := 38) X dX9_deviationWith_93 (by decide) ?_
      refine q_sub (lv2 := [(0, .ref (gA G 0 0)), (1, .int bi), (2, .int ti), (3, .int (de + (S_J9_abs_0f7a4 ((S_X6_valueOnLine π 8 (r5 18)) - (r5 4))))), (4, .int (k + 1))]) [2, 3, 4, 1, 0] rfl ?_
      have E : L_X9_deviationWith_38 fu ρ π μ θ bi ti (de + (S_J9_abs_0f7a4 ((S_X6_valueOnLine π 8 (r5 18)) - (r5 4)))) (k + 1) r5 = Z := Eq.trans (Eq.symm (by subst e_r5; exact (if_neg c4).trans rfl)) hZ
      exact ih (de + (S_J9_abs_0f7a4 ((S_X6_valueOnLine π 8 (r5 18)) - (r5 4)))) (k + 1) r5  (by subst e_r5; exact ms_up c4 hm) E
set_option maxRecDepth 100000 in
set_option maxHeartbeats 4000000 in
theorem c_X9_deviationWith {G : Geo} {l : Launch} (hG : GOK G) {h : Hp} {ρ : Nat → Int32} {π : Nat → Int32} {μ : Nat → Int32} {θ : Nat → Int32} (bi : Int32) (ti : Int32) (hK : KT G) (hr_2 : h 2 = ρ) (hr_3 : h 3 = π) (hr_4 : h 4 = μ) (hr_6 : h 6 = θ) : CM G l yX9_deviationWith cX9_deviationWith 5 (some .int) 5 123 [.ref (gA G 0 0), .int bi, .int ti] h (va_up h 6 ((S_X9_deviationWith ρ π μ θ bi ti).2)) (some (.int ((S_X9_deviationWith ρ π μ θ bi ti).1))) := by
  obtain ⟨Z, hZ⟩ : ∃ Z, S_X9_deviationWith ρ π μ θ bi ti = Z := ⟨_, rfl⟩
  rw [hZ]
  refine q_enter hG mf_X9_deviationWith (Nat.le_of_ble_eq_true rfl) ?_
  intro p e s m below meth c X hret
  have hT_0 : gT G 0 = 0 := hK 0 (by decide)
  have hT_2 : gT G 2 = 2 := hK 2 (by decide)
  have hT_3 : gT G 3 = 3 := hK 3 (by decide)
  have hT_4 : gT G 4 = 3 := hK 4 (by decide)
  have hT_6 : gT G 6 = 2 := hK 6 (by decide)
  refine q_lv (lv2 := [(0, .ref (gA G 0 0)), (1, .int bi), (2, .int ti)]) rfl ?_
  refine q_aload_n X 0 dX9_deviationWith_0 rfl ?_
  refine q_get (fk := 9) (v := .ref (gA G 6 0)) X cf_X9 (ac_0_0 hT_0) (by decide) fl_X9_64 rfl rfl dX9_deviationWith_1 rfl ?_
  refine q_aload_n X 0 dX9_deviationWith_4 rfl ?_
  refine q_get (fk := 1) (v := .ref (gA G 2 0)) X cf_X9 (ac_0_0 hT_0) (by decide) fl_X9_20 rfl rfl dX9_deviationWith_5 rfl ?_
  obtain ⟨r1, e_r1⟩ : ∃ z : Nat → Int32, z = S_X4_copyFrom θ ρ := ⟨_, rfl⟩
  refine q_callV (h1 := _) (rest := []) (As := [.ref (gA G 2 0)]) X (c_X4_copyFrom (l := l) hG (ρ := θ) (ρ2 := ρ)   hT_6 hT_2 (hr_6) (hr_2) (by decide)) mf_X4_copyFrom mv_X4_copyFrom cf_X4 rfl (ac_2_0 hT_6) lk_X9_220 rfl ⟨by decide, by decide⟩ ⟨Nat.le_refl _, Nat.le_refl _⟩ rfl (Nat.le_of_ble_eq_true rfl) dX9_deviationWith_8 (st2 := []) rfl ?_
  refine q_eq (h2 := va_up h 6 r1) (by rw [e_r1]) rfl ?_
  refine q_aload_n X 0 dX9_deviationWith_11 rfl ?_
  refine q_get (fk := 9) (v := .ref (gA G 6 0)) X cf_X9 (ac_0_0 hT_0) (by decide) fl_X9_64 rfl rfl dX9_deviationWith_12 rfl ?_
  refine q_get (fk := 0) (v := .ref (gA G 6 1)) X cf_X4 (ac_2_0 hT_6) (by decide) fl_X9_21 rfl rfl dX9_deviationWith_15 rfl ?_
  refine q_iconst (v := 1) X dX9_deviationWith_18 (by decide) ?_
  obtain ⟨r2, e_r2⟩ : ∃ z : Nat → Int32, z = va_up r1 9 1 := ⟨_, rfl⟩
  refine q_put (fk := 1) (h2 := va_up h 6 r2) X cf_X5 (ac_2_1 hT_6) (by decide) fl_X9_91 rfl rfl (by rw [hT_6]; rfl) rfl rfl rfl dX9_deviationWith_19 (va_up_self _ _ _) (by rw [e_r2, va_up_up]) ?_
  refine q_aload_n X 0 dX9_deviationWith_22 rfl ?_
  refine q_get (fk := 9) (v := .ref (gA G 6 0)) X cf_X9 (ac_0_0 hT_0) (by decide) fl_X9_64 rfl rfl dX9_deviationWith_23 rfl ?_
  refine q_get (fk := 0) (v := .ref (gA G 6 1)) X cf_X4 (ac_2_0 hT_6) (by decide) fl_X9_21 rfl rfl dX9_deviationWith_26 rfl ?_
  refine q_iload_n X 1 dX9_deviationWith_29 rfl ?_
  obtain ⟨r3, e_r3⟩ : ∃ z : Nat → Int32, z = va_up r2 12 bi := ⟨_, rfl⟩
  refine q_put (fk := 4) (h2 := va_up h 6 r3) X cf_X5 (ac_2_1 hT_6) (by decide) fl_X9_100 rfl rfl (by rw [hT_6]; rfl) rfl rfl rfl dX9_deviationWith_30 (va_up_self _ _ _) (by rw [e_r3, va_up_up]) ?_
  refine q_iconst (v := 0) X dX9_deviationWith_33 (by decide) ?_
  refine q_istore_n (lv' := [(3, .int 0), (0, .ref (gA G 0 0)), (1, .int bi), (2, .int ti)]) X dX9_deviationWith_34 (by decide) rfl ?_
  refine q_iconst (v := 0) X dX9_deviationWith_35 (by decide) ?_
  refine q_istore (lv' := [(4, .int 0), (3, .int 0), (0, .ref (gA G 0 0)), (1, .int bi), (2, .int ti)]) X dX9_deviationWith_36 (by decide) rfl ?_
  refine q_sub (lv2 := [(0, .ref (gA G 0 0)), (1, .int bi), (2, .int ti), (3, .int 0), (4, .int 0)]) [2, 3, 4, 1, 0] rfl ?_
  have E : L_X9_deviationWith_38 ((ti.toInt - (0 : Int32).toInt).toNat + 1) ρ π μ θ bi ti 0 0 r3 = Z := Eq.trans (Eq.symm (by subst e_r3; subst e_r2; subst e_r1; exact rfl)) hZ
  exact w_X9_deviationWith_38 X hret hK hr_2 hr_3 hr_4 hr_6 Z ((ti.toInt - (0 : Int32).toInt).toNat + 1) 0 0 r3  (by subst e_r3; subst e_r2; subst e_r1; exact Nat.lt_succ_self _) E
def L_X9_bestBias_49 (fu : Nat) (ρ : Nat → Int32) (π : Nat → Int32) (μ : Nat → Int32) (θ : Nat → Int32) (ti : Int32) (be : Int32) (sm : Int32) (k : Int32) (θ1 : Nat → Int32) : Int32 × (Nat → Int32) := match fu with
  | 0 => (0, (fun _ => 0))
  | fu + 1 => if 100 < k then ((be, θ1)) else (let r6 : Nat → Int32 := (S_X9_deviationWith ρ π μ θ1 k ti).2; let m8 : Int32 := if sm ≤ ((S_X9_deviationWith ρ π μ θ1 k ti).1) then (be) else (k); let m9 : Int32 := if sm ≤ ((S_X9_deviationWith ρ π μ θ1 k ti).1) then (sm) else ((S_X9_deviationWith ρ π μ θ1 k ti).1); L_X9_bestBias_49 fu ρ π μ θ ti m8 m9 (k + 1) r6)
def S_X9_bestBias (ρ : Nat → Int32) (π : Nat → Int32) (μ : Nat → Int32) (θ : Nat → Int32) (ti : Int32) : Int32 × (Nat → Int32) := if (S_X9_inRange ti 1 100) = 0 then (((-100001), θ)) else (if (ρ 1) = 1 then (if (π 0) = 0 then (((-100002), θ)) else (let r4 : Nat → Int32 := (S_X9_deviationWith ρ π μ θ 0 ti).2; L_X9_bestBias_49 102 ρ π μ θ ti 0 ((S_X9_deviationWith ρ π μ θ 0 ti).1) 1 r4)) else (((-100002), θ)))
set_option maxRecDepth 100000 in
set_option maxHeartbeats 4000000 in
theorem w_X9_bestBias_49 {G : Geo} {p : Program} {l : Launch} {e : Env} {s : State} {m : MethodId} {args : Array Value} {below : List Frame} {meth : Method} {c : Code} {h : Hp} {ρ : Nat → Int32} {π : Nat → Int32} {μ : Nat → Int32} {θ : Nat → Int32} {ti : Int32} (X : CX G (AA G) p s m meth c RX9 cX9_bestBias 6) (hret : meth.sig.returnType = (some .int)) (hK : KT G) (hr_2 : h 2 = ρ) (hr_3 : h 3 = π) (hr_4 : h 4 = μ) (hr_6 : h 6 = θ) (Z : Int32 × (Nat → Int32)) : ∀ (fu : Nat) (be : Int32) (sm : Int32) (k : Int32) (θ1 : Nat → Int32), ((100 : Int32).toInt + 1 - k.toInt).toNat < fu → L_X9_bestBias_49 fu ρ π μ θ ti be sm k θ1 = Z → VV G (AA G) p l e { frames := 6, cells := 0, slots := 0, locals := 147 } s m args below meth c 0 0 (MQ below (QC G (va_up h 6 Z.2) (some (.int Z.1))) args s 0 0 (AA G)) 6 (va_up h 6 θ1) 49 [(0, .ref (gA G 0 0)), (1, .int ti), (2, .int be), (3, .int sm), (4, .int k)] [] := by
  intro fu
  induction fu with
  | zero =>
    intro be sm k θ1  hm
    exact absurd hm (Nat.not_lt_zero _)
  | succ fu ih =>
    intro be sm k θ1  hm hZ
    have hG := X.2.2.2.2.2.1
    have hT_0 : gT G 0 = 0 := hK 0 (by decide)
    have hT_2 : gT G 2 = 2 := hK 2 (by decide)
    have hT_3 : gT G 3 = 3 := hK 3 (by decide)
    have hT_4 : gT G 4 = 3 := hK 4 (by decide)
    have hT_6 : gT G 6 = 2 := hK 6 (by decide)
    refine q_iload X 4 dX9_bestBias_49 rfl ?_
    refine q_bipush (v := 100) X dX9_bestBias_51 (by decide) ?_
    refine q_icmp_gt (tgt := 83) X dX9_bestBias_53 (by decide) (fun c5 => ?_) (fun c5 => ?_)
    · skip
      refine q_iload_n X 2 dX9_bestBias_83 rfl ?_
      have E : Z = (be, θ1) := by exact hZ.symm.trans ((if_pos c5).trans rfl)
      exact q_iret X hret dX9_bestBias_84 (by rw [E]) (by rw [E])
    · skip
      refine q_aload_n X 0 dX9_bestBias_56 rfl ?_
      refine q_iload X 4 dX9_bestBias_57 rfl ?_
      refine q_iload_n X 1 dX9_bestBias_59 rfl ?_
      obtain ⟨r6, e_r6⟩ : ∃ z : Nat → Int32, z = (S_X9_deviationWith ρ π μ θ1 k ti).2 := ⟨_, rfl⟩
      refine q_callV (h1 := _) (rest := []) (As := [.int k, .int ti]) X (c_X9_deviationWith (l := l) hG (ρ := ρ) (π := π) (μ := μ) (θ := θ1)  k ti hK ((va_up_ne _ _ (by decide)).trans (hr_2)) ((va_up_ne _ _ (by decide)).trans (hr_3)) ((va_up_ne _ _ (by decide)).trans (hr_4)) (va_up_self _ _ _)) mf_X9_deviationWith mv_X9_deviationWith cf_X9 rfl (ac_0_0 hT_0) lk_X9_224 rfl ⟨by decide, by decide⟩ ⟨Nat.le_refl _, Nat.le_refl _⟩ rfl (Nat.le_of_ble_eq_true rfl) dX9_bestBias_60 (st2 := [.int ((S_X9_deviationWith ρ π μ θ1 k ti).1)]) rfl ?_
      refine q_eq (h2 := va_up h 6 r6) (by rw [e_r6]; exact va_up_up _ _ _ _) rfl ?_
      refine q_istore (lv' := [(5, .int ((S_X9_deviationWith ρ π μ θ1 k ti).1)), (0, .ref (gA G 0 0)), (1, .int ti), (2, .int be), (3, .int sm), (4, .int k)]) X dX9_bestBias_63 (by decide) rfl ?_
      refine q_iload X 0 dX9_bestBias_65 rfl ?_
      refine q_iload_n X 4 dX9_bestBias_67 rfl ?_
      suffices hJ10 : ∀ (m8 : Int32) (m9 : Int32), m8 = (if sm ≤ ((S_X9_deviationWith ρ π μ θ1 k ti).1) then (be) else (k)) → m9 = (if sm ≤ ((S_X9_deviationWith ρ π μ θ1 k ti).1) then (sm) else ((S_X9_deviationWith ρ π μ θ1 k ti).1)) → VV G (AA G) p l e { frames := 6, cells := 0, slots := 0, locals := 147 } s m args below meth c 0 0 (MQ below (QC G (va_up h 6 Z.2) (some (.int Z.1))) args s 0 0 (AA G)) 6 (va_up h 6 r6) 77 [(5, .int ((S_X9_deviationWith ρ π μ θ1 k ti).1)), (0, .ref (gA G 0 0)), (1, .int ti), (2, .int m8), (3, .int m9), (4, .int k)] [] by
        refine q_icmp_ge (tgt := 77) X dX9_bestBias_68 (by decide) (fun c7 => ?_) (fun c7 => ?_)
        · skip
          refine q_sub (lv2 := [(5, .int ((S_X9_deviationWith ρ π μ θ1 k ti).1)), (0, .ref (gA G 0 0)), (1, .int ti), (2, .int be), (3, .int sm), (4, .int k)]) [0, 1, 2, 3, 4, 5] rfl ?_
          exact hJ10 be sm (by exact ((if_pos c7).trans rfl).symm) (by exact ((if_pos c7).trans rfl).symm)
        · skip
          refine q_iload X 0 dX9_bestBias_71 rfl ?_
          refine q_istore_n (lv' := [(3, .int ((S_X9_deviationWith ρ π μ θ1 k ti).1)), (5, .int ((S_X9_deviationWith ρ π μ θ1 k ti).1)), (0, .ref (gA G 0 0)), (1, .int ti), (2, .int be), (4, .int k)]) X dX9_bestBias_73 (by decide) rfl ?_
          refine q_iload X 5 dX9_bestBias_74 rfl ?_
          refine q_istore_n (lv' := [(2, .int k), (3, .int ((S_X9_deviationWith ρ π μ θ1 k ti).1)), (5, .int ((S_X9_deviationWith ρ π μ θ1 k ti).1)), (0, .ref (gA G 0 0)), (1, .int ti), (4, .int k)]) X dX9_bestBias_76 (by decide) rfl ?_
          refine q_sub (lv2 := [(5, .int ((S_X9_deviationWith ρ π μ θ1 k ti).1)), (0, .ref (gA G 0 0)), (1, .int ti), (2, .int k), (3, .int ((S_X9_deviationWith ρ π μ θ1 k ti).1)), (4, .int k)]) [2, 3, 4, 0, 1, 5] rfl ?_
          exact hJ10 k ((S_X9_deviationWith ρ π μ θ1 k ti).1) (by exact ((if_neg c7).trans rfl).symm) (by exact ((if_neg c7).trans rfl).symm)
      intro m8 m9 e_m8 e_m9
      refine q_iinc (v := k + 1) (lv' := [(4, .int (k + 1)), (5, .int ((S_X9_deviationWith ρ π μ θ1 k ti).1)), (0, .ref (gA G 0 0)), (1, .int ti), (2, .int m8), (3, .int m9)]) X 5 dX9_bestBias_77 rfl rfl (by decide) rfl ?_
      refine q_goto (tgt := 49) X dX9_bestBias_80 (by decide) ?_
      refine q_sub (lv2 := [(0, .ref (gA G 0 0)), (1, .int ti), (2, .int m8), (3, .int m9), (4, .int (k + 1))]) [2, 3, 4, 5, 0] rfl ?_
      have E : L_X9_bestBias_49 fu ρ π μ θ ti m8 m9 (k + 1) r6 = Z := Eq.trans (Eq.symm (by subst e_m9; subst e_m8; subst e_r6; exact (if_neg c5).trans rfl)) hZ
      exact ih m8 m9 (k + 1) r6  (by subst e_m9; subst e_m8; subst e_r6; exact ms_gt (by decide) c5 hm) E
set_option maxRecDepth 100000 in
set_option maxHeartbeats 4000000 in
theorem c_X9_bestBias {G : Geo} {l : Launch} (hG : GOK G) {h : Hp} {ρ : Nat → Int32} {π : Nat → Int32} {μ : Nat → Int32} {θ : Nat → Int32} (ti : Int32) (hK : KT G) (hr_2 : h 2 = ρ) (hr_3 : h 3 = π) (hr_4 : h 4 = μ) (hr_6 : h 6 = θ) : CM G l yX9_bestBias cX9_bestBias 6 (some .int) 6 147 [.ref (gA G 0 0), .int ti] h (va_up h 6 ((S_X9_bestBias ρ π μ θ ti).2)) (some (.int ((S_X9_bestBias ρ π μ θ ti).1))) := by
  obtain ⟨Z, hZ⟩ : ∃ Z, S_X9_bestBias ρ π μ θ ti = Z := ⟨_, rfl⟩
  rw [hZ]
  refine q_enter hG mf_X9_bestBias (Nat.le_of_ble_eq_true rfl) ?_
  intro p e s m below meth c X hret
  have hT_0 : gT G 0 = 0 := hK 0 (by decide)
  have hT_2 : gT G 2 = 2 := hK 2 (by decide)
  have hT_3 : gT G 3 = 3 := hK 3 (by decide)
  have hT_4 : gT G 4 = 3 := hK 4 (by decide)
  have hT_6 : gT G 6 = 2 := hK 6 (by decide)
  refine q_lv (lv2 := [(0, .ref (gA G 0 0)), (1, .int ti)]) rfl ?_
  refine q_iload_n X 1 dX9_bestBias_0 rfl ?_
  refine q_iconst (v := 1) X dX9_bestBias_1 (by decide) ?_
  refine q_bipush (v := 100) X dX9_bestBias_2 (by decide) ?_
  refine q_callS (h1 := _) (rest := []) (As := [.int ti, .int 1, .int 100]) X (c_X9_inRange (l := l) hG   ti 1 100 ) mf_X9_inRange ms_X9_inRange lk_X9_73 rfl ⟨by decide, by decide⟩ ⟨Nat.le_refl _, Nat.le_refl _⟩ rfl (Nat.le_of_ble_eq_true rfl) dX9_bestBias_4 (st2 := [.int (S_X9_inRange ti 1 100)]) rfl ?_
  refine q_if_ne (tgt := 13) X dX9_bestBias_7 (by decide) (fun c1 => ?_) (fun c1 => ?_)
  · skip
    refine q_aload_n X 0 dX9_bestBias_13 rfl ?_
    refine q_get (fk := 1) (v := .ref (gA G 2 0)) X cf_X9 (ac_0_0 hT_0) (by decide) fl_X9_20 rfl rfl dX9_bestBias_14 rfl ?_
    refine q_geti (fk := 3) (x := ρ 1) X cf_X4 (ac_2_0 hT_2) (by decide) fl_X9_156 rfl rfl dX9_bestBias_17 (hr_2) rfl ?_
    refine q_iconst (v := 1) X dX9_bestBias_20 (by decide) ?_
    refine q_icmp_ne (tgt := 34) X dX9_bestBias_21 (by decide) (fun c2 => ?_) (fun c2 => ?_)
    · skip
      refine q_ldc X kc_X9_129 dX9_bestBias_34 ?_
      have E : Z = ((-100002), θ) := by exact hZ.symm.trans ((if_neg c1).trans ((if_neg c2).trans rfl))
      exact q_iret X hret dX9_bestBias_36 (by rw [E]) (by rw [E]; exact va_up_id2 (hr_6))
    · skip
      refine q_aload_n X 0 dX9_bestBias_24 rfl ?_
      refine q_get (fk := 3) (v := .ref (gA G 3 0)) X cf_X9 (ac_0_0 hT_0) (by decide) fl_X9_32 rfl rfl dX9_bestBias_25 rfl ?_
      refine q_geti (fk := 2) (x := π 0) X cf_X6 (ac_3_0 hT_3) (by decide) fl_X9_123 rfl rfl dX9_bestBias_28 (hr_3) rfl ?_
      refine q_if_ne (tgt := 37) X dX9_bestBias_31 (by decide) (fun c3 => ?_) (fun c3 => ?_)
      · skip
        refine q_iconst (v := 0) X dX9_bestBias_37 (by decide) ?_
        refine q_istore_n (lv' := [(2, .int 0), (0, .ref (gA G 0 0)), (1, .int ti)]) X dX9_bestBias_38 (by decide) rfl ?_
        refine q_aload_n X 1 dX9_bestBias_39 rfl ?_
        refine q_iconst (v := 0) X dX9_bestBias_40 (by decide) ?_
        refine q_iload_n X 2 dX9_bestBias_41 rfl ?_
        obtain ⟨r4, e_r4⟩ : ∃ z : Nat → Int32, z = (S_X9_deviationWith ρ π μ θ 0 ti).2 := ⟨_, rfl⟩
        refine q_callV (h1 := _) (rest := []) (As := [.int 0, .int ti]) X (c_X9_deviationWith (l := l) hG (ρ := ρ) (π := π) (μ := μ) (θ := θ)  0 ti hK (hr_2) (hr_3) (hr_4) (hr_6)) mf_X9_deviationWith mv_X9_deviationWith cf_X9 rfl (ac_0_0 hT_0) lk_X9_224 rfl ⟨by decide, by decide⟩ ⟨Nat.le_refl _, Nat.le_refl _⟩ rfl (Nat.le_of_ble_eq_true rfl) dX9_bestBias_42 (st2 := [.int ((S_X9_deviationWith ρ π μ θ 0 ti).1)]) rfl ?_
        refine q_eq (h2 := va_up h 6 r4) (by rw [e_r4]) rfl ?_
        refine q_istore_n (lv' := [(3, .int ((S_X9_deviationWith ρ π μ θ 0 ti).1)), (2, .int 0), (0, .ref (gA G 0 0)), (1, .int ti)]) X dX9_bestBias_45 (by decide) rfl ?_
        refine q_iconst (v := 1) X dX9_bestBias_46 (by decide) ?_
        refine q_istore (lv' := [(4, .int 1), (3, .int ((S_X9_deviationWith ρ π μ θ 0 ti).1)), (2, .int 0), (0, .ref (gA G 0 0)), (1, .int ti)]) X dX9_bestBias_47 (by decide) rfl ?_
        refine q_sub (lv2 := [(0, .ref (gA G 0 0)), (1, .int ti), (2, .int 0), (3, .int ((S_X9_deviationWith ρ π μ θ 0 ti).1)), (4, .int 1)]) [3, 4, 2, 1, 0] rfl ?_
        have E : L_X9_bestBias_49 102 ρ π μ θ ti 0 ((S_X9_deviationWith ρ π μ θ 0 ti).1) 1 r4 = Z := Eq.trans (Eq.symm (by subst e_r4; exact (if_neg c1).trans ((if_pos c2).trans ((if_neg c3).trans rfl)))) hZ
        exact w_X9_bestBias_49 X hret hK hr_2 hr_3 hr_4 hr_6 Z 102 0 ((S_X9_deviationWith ρ π μ θ 0 ti).1) 1 r4  (by subst e_r4; decide) E
      · skip
        refine q_ldc X kc_X9_129 dX9_bestBias_34 ?_
        have E : Z = ((-100002), θ) := by exact hZ.symm.trans ((if_neg c1).trans ((if_pos c2).trans ((if_pos c3).trans rfl)))
        exact q_iret X hret dX9_bestBias_36 (by rw [E]) (by rw [E]; exact va_up_id2 (hr_6))
  · skip
    refine q_ldc X kc_X9_77 dX9_bestBias_10 ?_
    have E : Z = ((-100001), θ) := by exact hZ.symm.trans ((if_pos c1).trans rfl)
    exact q_iret X hret dX9_bestBias_12 (by rw [E]) (by rw [E]; exact va_up_id2 (hr_6))
