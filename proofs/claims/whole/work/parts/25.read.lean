def T_X10_readPoint_m2 (κ : Nat → Int32) (σ : Nat → Int32) (τ : Nat → Int32) (be : Int32) : Int32 := if (σ 32) = 8 then (κ 3) else (κ 4)
def T_X10_readPoint_r4 (κ : Nat → Int32) (σ : Nat → Int32) (τ : Nat → Int32) (be : Int32) : Nat → Int32 := va_up κ 4 (T_X10_readPoint_m2 κ σ τ be)
def T_X10_readPoint_r5 (κ : Nat → Int32) (σ : Nat → Int32) (τ : Nat → Int32) (be : Int32) : Nat → Int32 := (S_X10_takeNumber (T_X10_readPoint_r4 κ σ τ be) τ (be + 1) 400).2
def T_X10_readPoint_r6 (κ : Nat → Int32) (σ : Nat → Int32) (τ : Nat → Int32) (be : Int32) : Nat → Int32 := (S_X10_takeNumber (T_X10_readPoint_r5 κ σ τ be) τ 0 3000).2
def T_X10_readPoint_r7 (κ : Nat → Int32) (σ : Nat → Int32) (τ : Nat → Int32) (be : Int32) : Nat → Int32 := S_X10_skip (T_X10_readPoint_r6 κ σ τ be) τ
def T_X10_readPoint_m9 (κ : Nat → Int32) (σ : Nat → Int32) (τ : Nat → Int32) (be : Int32) : Int32 := if ((T_X10_readPoint_r7 κ σ τ be) 4) = (-100009) then (if (S_X10_here (T_X10_readPoint_r7 κ σ τ be) τ) = 59 then ((T_X10_readPoint_r7 κ σ τ be) 4) else ((T_X10_readPoint_r7 κ σ τ be) 3)) else ((T_X10_readPoint_r7 κ σ τ be) 4)
def T_X10_readPoint_r12 (κ : Nat → Int32) (σ : Nat → Int32) (τ : Nat → Int32) (be : Int32) : Nat → Int32 := va_up (T_X10_readPoint_r7 κ σ τ be) 4 (T_X10_readPoint_m9 κ σ τ be)
def T_X10_readPoint_r13 (κ : Nat → Int32) (σ : Nat → Int32) (τ : Nat → Int32) (be : Int32) : Nat → Int32 := va_up (T_X10_readPoint_r12 κ σ τ be) 3 (((T_X10_readPoint_r12 κ σ τ be) 3) + 1)
def T_X10_readPoint_m15 (κ : Nat → Int32) (σ : Nat → Int32) (τ : Nat → Int32) (be : Int32) : Nat → Int32 := if ((T_X10_readPoint_r13 κ σ τ be) 4) = (-100009) then (S_X10_insert_P σ ((S_X10_takeNumber (T_X10_readPoint_r4 κ σ τ be) τ (be + 1) 400).1) ((S_X10_takeNumber (T_X10_readPoint_r5 κ σ τ be) τ 0 3000).1)) else (σ)
def S_X10_readPoint (κ : Nat → Int32) (σ : Nat → Int32) (τ : Nat → Int32) (be : Int32) : (Nat → Int32) × (Nat → Int32) := ((T_X10_readPoint_r13 κ σ τ be), (T_X10_readPoint_m15 κ σ τ be))
set_option maxRecDepth 100000 in
set_option maxHeartbeats 4000000 in
theorem c_X10_readPoint {G : Geo} {l : Launch} (hG : GOK G) {h : Hp} {κ : Nat → Int32} {σ : Nat → Int32} {τ : Nat → Int32} (be : Int32) (hM : MT G) (hr_36 : h 36 = κ) (hr_37 : h 37 = σ) (hr_40 : h 40 = τ) (hN : TI κ) (hs : 0 ≤ (σ 32).toInt ∧ (σ 32).toInt ≤ 8) : CM G l yX10_readPoint cX10_readPoint 4 none 3 65 [.ref (gA G 36 0), .int be] h (va_up (va_up h 36 ((S_X10_readPoint κ σ τ be).1)) 37 ((S_X10_readPoint κ σ τ be).2)) none := by
  obtain ⟨Z, hZ⟩ : ∃ Z, S_X10_readPoint κ σ τ be = Z := ⟨_, rfl⟩
  rw [hZ]
  refine q_enter hG mf_X10_readPoint (Nat.le_of_ble_eq_true rfl) ?_
  intro p e s m below meth c X hret
  have hT_36 : gT G 36 = 9 := hM 36 (by decide) (by decide)
  have hT_37 : gT G 37 = 10 := hM 37 (by decide) (by decide)
  have hT_40 : gT G 40 = 12 := hM 40 (by decide) (by decide)
  refine q_lv (lv2 := [(0, .ref (gA G 36 0)), (1, .int be)]) rfl ?_
  refine q_aload_n X 0 dX10_readPoint_0 rfl ?_
  refine q_aload_n X 0 dX10_readPoint_1 rfl ?_
  refine q_get (fk := 1) (v := .ref (gA G 37 0)) X cf_X10 (ac_9_0 hT_36) (by decide) fl_X10_7 rfl rfl dX10_readPoint_2 rfl ?_
  refine q_bipush (v := 32) X dX10_readPoint_5 (by decide) ?_
  refine q_iald (x := σ 32) X (ac_10_0 hT_37) (by rw [hT_37]; exact vin_lit (by decide)) dX10_readPoint_7 (hr_37) rfl ?_
  refine q_bipush (v := 8) X dX10_readPoint_8 (by decide) ?_
  suffices hJ3 : ∀ (m2 : Int32), m2 = (if (σ 32) = 8 then (κ 3) else (κ 4)) → VV G (AA G) p l e { frames := 3, cells := 0, slots := 0, locals := 65 } s m ([.ref (gA G 36 0), .int be] : List Value).toArray below meth c 0 0 (MQ below (QC G (va_up (va_up h 36 Z.1) 37 Z.2) none) ([.ref (gA G 36 0), .int be] : List Value).toArray s 0 0 (AA G)) 4 h 24 [(0, .ref (gA G 36 0)), (1, .int be)] [.int m2, .ref (gA G 36 0)] by
    refine q_icmp_ne (tgt := 20) X dX10_readPoint_10 (by decide) (fun c1 => ?_) (fun c1 => ?_)
    · skip
      refine q_aload_n X 0 dX10_readPoint_20 rfl ?_
      refine q_geti (fk := 8) (x := κ 4) X cf_X10 (ac_9_0 hT_36) (by decide) fl_X10_78 rfl rfl dX10_readPoint_21 (hr_36) rfl ?_
      refine q_sub (lv2 := [(0, .ref (gA G 36 0)), (1, .int be)]) [0, 1] rfl ?_
      exact hJ3 (κ 4) (by exact ((if_neg c1).trans rfl).symm)
    · skip
      refine q_aload_n X 0 dX10_readPoint_13 rfl ?_
      refine q_geti (fk := 7) (x := κ 3) X cf_X10 (ac_9_0 hT_36) (by decide) fl_X10_68 rfl rfl dX10_readPoint_14 (hr_36) rfl ?_
      refine q_goto (tgt := 24) X dX10_readPoint_17 (by decide) ?_
      refine q_sub (lv2 := [(0, .ref (gA G 36 0)), (1, .int be)]) [0, 1] rfl ?_
      exact hJ3 (κ 3) (by exact ((if_pos c1).trans rfl).symm)
  intro m2 e_m2
  obtain ⟨r4, e_r4⟩ : ∃ z : Nat → Int32, z = va_up κ 4 m2 := ⟨_, rfl⟩
  have i_r4 : TI r4 := by rw [e_r4]; exact TI_w4 hN
  refine q_put (fk := 8) (h2 := va_up h 36 r4) X cf_X10 (ac_9_0 hT_36) (by decide) fl_X10_78 rfl rfl (by rw [hT_36]; rfl) rfl rfl rfl dX10_readPoint_24 (hr_36) (by rw [e_r4]) ?_
  refine q_aload_n X 0 dX10_readPoint_27 rfl ?_
  refine q_iload_n X 1 dX10_readPoint_28 rfl ?_
  refine q_iconst (v := 1) X dX10_readPoint_29 (by decide) ?_
  refine q_iadd X dX10_readPoint_30 ?_
  refine q_sipush (v := 400) X dX10_readPoint_31 (by decide) ?_
  obtain ⟨r5, e_r5⟩ : ∃ z : Nat → Int32, z = (S_X10_takeNumber r4 τ (be + 1) 400).2 := ⟨_, rfl⟩
  have i_r5 : TI r5 := by rw [e_r5]; exact TI_X10_takeNumber i_r4
  refine q_callV (h1 := _) (rest := []) (As := [.int (be + 1), .int 400]) X (c_X10_takeNumber (l := l) hG (κ := r4) (τ := τ)  (be + 1) 400 hM (va_up_self _ _ _) ((va_up_ne _ _ (by decide)).trans (hr_40)) i_r4) mf_X10_takeNumber mv_X10_takeNumber cf_X10 rfl (ac_9_0 hT_36) lk_X10_82 rfl ⟨by decide, by decide⟩ ⟨Nat.le_refl _, Nat.le_refl _⟩ rfl (Nat.le_of_ble_eq_true rfl) dX10_readPoint_34 (st2 := [.int ((S_X10_takeNumber r4 τ (be + 1) 400).1)]) rfl ?_
  refine q_eq (h2 := va_up h 36 r5) (by rw [e_r5]; exact va_up_up _ _ _ _) rfl ?_
  refine q_istore_n (lv' := [(2, .int ((S_X10_takeNumber r4 τ (be + 1) 400).1)), (0, .ref (gA G 36 0)), (1, .int be)]) X dX10_readPoint_37 (by decide) rfl ?_
  refine q_aload_n X 1 dX10_readPoint_38 rfl ?_
  refine q_iconst (v := 0) X dX10_readPoint_39 (by decide) ?_
  refine q_sipush (v := 3000) X dX10_readPoint_40 (by decide) ?_
  obtain ⟨r6, e_r6⟩ : ∃ z : Nat → Int32, z = (S_X10_takeNumber r5 τ 0 3000).2 := ⟨_, rfl⟩
  have i_r6 : TI r6 := by rw [e_r6]; exact TI_X10_takeNumber i_r5
  refine q_callV (h1 := _) (rest := []) (As := [.int 0, .int 3000]) X (c_X10_takeNumber (l := l) hG (κ := r5) (τ := τ)  0 3000 hM (va_up_self _ _ _) ((va_up_ne _ _ (by decide)).trans (hr_40)) i_r5) mf_X10_takeNumber mv_X10_takeNumber cf_X10 rfl (ac_9_0 hT_36) lk_X10_82 rfl ⟨by decide, by decide⟩ ⟨Nat.le_refl _, Nat.le_refl _⟩ rfl (Nat.le_of_ble_eq_true rfl) dX10_readPoint_43 (st2 := [.int ((S_X10_takeNumber r5 τ 0 3000).1)]) rfl ?_
  refine q_eq (h2 := va_up h 36 r6) (by rw [e_r6]; exact va_up_up _ _ _ _) rfl ?_
  refine q_istore_n (lv' := [(3, .int ((S_X10_takeNumber r5 τ 0 3000).1)), (2, .int ((S_X10_takeNumber r4 τ (be + 1) 400).1)), (0, .ref (gA G 36 0)), (1, .int be)]) X dX10_readPoint_46 (by decide) rfl ?_
  refine q_aload_n X 2 dX10_readPoint_47 rfl ?_
  obtain ⟨r7, e_r7⟩ : ∃ z : Nat → Int32, z = S_X10_skip r6 τ := ⟨_, rfl⟩
  have i_r7 : TI r7 := by rw [e_r7]; exact TI_X10_skip i_r6
  refine q_callV (h1 := _) (rest := []) (As := []) X (c_X10_skip (l := l) hG (κ := r6) (τ := τ)   hM (va_up_self _ _ _) ((va_up_ne _ _ (by decide)).trans (hr_40)) i_r6) mf_X10_skip mv_X10_skip cf_X10 rfl (ac_9_0 hT_36) lk_X10_75 rfl ⟨by decide, by decide⟩ ⟨Nat.le_refl _, Nat.le_refl _⟩ rfl (Nat.le_of_ble_eq_true rfl) dX10_readPoint_48 (st2 := []) rfl ?_
  refine q_eq (h2 := va_up h 36 r7) (by rw [e_r7]; exact va_up_up _ _ _ _) rfl ?_
  refine q_aload_n X 2 dX10_readPoint_51 rfl ?_
  refine q_aload_n X 2 dX10_readPoint_52 rfl ?_
  refine q_geti (fk := 8) (x := r7 4) X cf_X10 (ac_9_0 hT_36) (by decide) fl_X10_78 rfl rfl dX10_readPoint_53 (va_up_self _ _ _) rfl ?_
  refine q_ldc X kc_X10_81 dX10_readPoint_56 ?_
  suffices hJ11 : ∀ (m9 : Int32), m9 = (if (r7 4) = (-100009) then (if (S_X10_here r7 τ) = 59 then (r7 4) else (r7 3)) else (r7 4)) → VV G (AA G) p l e { frames := 3, cells := 0, slots := 0, locals := 65 } s m ([.ref (gA G 36 0), .int be] : List Value).toArray below meth c 0 0 (MQ below (QC G (va_up (va_up h 36 Z.1) 37 Z.2) none) ([.ref (gA G 36 0), .int be] : List Value).toArray s 0 0 (AA G)) 4 (va_up h 36 r7) 81 [(3, .int ((S_X10_takeNumber r5 τ 0 3000).1)), (2, .int ((S_X10_takeNumber r4 τ (be + 1) 400).1)), (0, .ref (gA G 36 0)), (1, .int be)] [.int m9, .ref (gA G 36 0)] by
    refine q_icmp_ne (tgt := 77) X dX10_readPoint_58 (by decide) (fun c8 => ?_) (fun c8 => ?_)
    · skip
      refine q_aload_n X 2 dX10_readPoint_77 rfl ?_
      refine q_geti (fk := 8) (x := r7 4) X cf_X10 (ac_9_0 hT_36) (by decide) fl_X10_78 rfl rfl dX10_readPoint_78 (va_up_self _ _ _) rfl ?_
      refine q_sub (lv2 := [(3, .int ((S_X10_takeNumber r5 τ 0 3000).1)), (2, .int ((S_X10_takeNumber r4 τ (be + 1) 400).1)), (0, .ref (gA G 36 0)), (1, .int be)]) [0, 1, 2, 3] rfl ?_
      exact hJ11 (r7 4) (by exact ((if_neg c8).trans rfl).symm)
    · skip
      refine q_aload_n X 2 dX10_readPoint_61 rfl ?_
      refine q_callV (h1 := _) (rest := [.ref (gA G 36 0)]) (As := []) X (c_X10_here (l := l) hG (κ := r7) (τ := τ)   hM (va_up_self _ _ _) ((va_up_ne _ _ (by decide)).trans (hr_40)) i_r7) mf_X10_here mv_X10_here cf_X10 rfl (ac_9_0 hT_36) lk_X10_71 rfl ⟨by decide, by decide⟩ ⟨Nat.le_refl _, Nat.le_refl _⟩ rfl (Nat.le_of_ble_eq_true rfl) dX10_readPoint_62 (st2 := [.int (S_X10_here r7 τ), .ref (gA G 36 0)]) rfl ?_
      refine q_bipush (v := 59) X dX10_readPoint_65 (by decide) ?_
      refine q_icmp_eq (tgt := 77) X dX10_readPoint_67 (by decide) (fun c10 => ?_) (fun c10 => ?_)
      · skip
        refine q_aload_n X 2 dX10_readPoint_77 rfl ?_
        refine q_geti (fk := 8) (x := r7 4) X cf_X10 (ac_9_0 hT_36) (by decide) fl_X10_78 rfl rfl dX10_readPoint_78 (va_up_self _ _ _) rfl ?_
        refine q_sub (lv2 := [(3, .int ((S_X10_takeNumber r5 τ 0 3000).1)), (2, .int ((S_X10_takeNumber r4 τ (be + 1) 400).1)), (0, .ref (gA G 36 0)), (1, .int be)]) [0, 1, 2, 3] rfl ?_
        exact hJ11 (r7 4) (by exact ((if_pos c8).trans ((if_pos c10).trans rfl)).symm)
      · skip
        refine q_aload_n X 2 dX10_readPoint_70 rfl ?_
        refine q_geti (fk := 7) (x := r7 3) X cf_X10 (ac_9_0 hT_36) (by decide) fl_X10_68 rfl rfl dX10_readPoint_71 (va_up_self _ _ _) rfl ?_
        refine q_goto (tgt := 81) X dX10_readPoint_74 (by decide) ?_
        refine q_sub (lv2 := [(3, .int ((S_X10_takeNumber r5 τ 0 3000).1)), (2, .int ((S_X10_takeNumber r4 τ (be + 1) 400).1)), (0, .ref (gA G 36 0)), (1, .int be)]) [0, 1, 2, 3] rfl ?_
        exact hJ11 (r7 3) (by exact ((if_pos c8).trans ((if_neg c10).trans rfl)).symm)
  intro m9 e_m9
  obtain ⟨r12, e_r12⟩ : ∃ z : Nat → Int32, z = va_up r7 4 m9 := ⟨_, rfl⟩
  have i_r12 : TI r12 := by rw [e_r12]; exact TI_w4 i_r7
  refine q_put (fk := 8) (h2 := va_up h 36 r12) X cf_X10 (ac_9_0 hT_36) (by decide) fl_X10_78 rfl rfl (by rw [hT_36]; rfl) rfl rfl rfl dX10_readPoint_81 (va_up_self _ _ _) (by rw [e_r12, va_up_up]) ?_
  refine q_aload_n X 2 dX10_readPoint_84 rfl ?_
  refine q_dup X dX10_readPoint_85 rfl ?_
  refine q_geti (fk := 7) (x := r12 3) X cf_X10 (ac_9_0 hT_36) (by decide) fl_X10_68 rfl rfl dX10_readPoint_86 (va_up_self _ _ _) rfl ?_
  refine q_iconst (v := 1) X dX10_readPoint_89 (by decide) ?_
  refine q_iadd X dX10_readPoint_90 ?_
  obtain ⟨r13, e_r13⟩ : ∃ z : Nat → Int32, z = va_up r12 3 ((r12 3) + 1) := ⟨_, rfl⟩
  refine q_put (fk := 7) (h2 := va_up h 36 r13) X cf_X10 (ac_9_0 hT_36) (by decide) fl_X10_68 rfl rfl (by rw [hT_36]; rfl) rfl rfl rfl dX10_readPoint_91 (va_up_self _ _ _) (by rw [e_r13, va_up_up]) ?_
  refine q_aload_n X 2 dX10_readPoint_94 rfl ?_
  refine q_geti (fk := 8) (x := r13 4) X cf_X10 (ac_9_0 hT_36) (by decide) fl_X10_78 rfl rfl dX10_readPoint_95 (va_up_self _ _ _) rfl ?_
  refine q_ldc X kc_X10_81 dX10_readPoint_98 ?_
  suffices hJ17 : ∀ (m15 : Nat → Int32), m15 = (if (r13 4) = (-100009) then (S_X10_insert_P σ ((S_X10_takeNumber r4 τ (be + 1) 400).1) ((S_X10_takeNumber r5 τ 0 3000).1)) else (σ)) → VV G (AA G) p l e { frames := 3, cells := 0, slots := 0, locals := 65 } s m ([.ref (gA G 36 0), .int be] : List Value).toArray below meth c 0 0 (MQ below (QC G (va_up (va_up h 36 Z.1) 37 Z.2) none) ([.ref (gA G 36 0), .int be] : List Value).toArray s 0 0 (AA G)) 4 (va_up (va_up h 36 r13) 37 m15) 113 [(3, .int ((S_X10_takeNumber r5 τ 0 3000).1)), (2, .int ((S_X10_takeNumber r4 τ (be + 1) 400).1)), (0, .ref (gA G 36 0)), (1, .int be)] [] by
    refine q_icmp_ne (tgt := 113) X dX10_readPoint_100 (by decide) (fun c14 => ?_) (fun c14 => ?_)
    · skip
      refine q_sub (lv2 := [(3, .int ((S_X10_takeNumber r5 τ 0 3000).1)), (2, .int ((S_X10_takeNumber r4 τ (be + 1) 400).1)), (0, .ref (gA G 36 0)), (1, .int be)]) [0, 1, 2, 3] rfl ?_
      refine q_eq (h2 := va_up (va_up h 36 r13) 37 σ) (va_up_id2 ((va_up_ne _ _ (by decide)).trans (hr_37))).symm rfl ?_
      exact hJ17 σ (by exact ((if_neg c14).trans rfl).symm)
    · skip
      refine q_aload_n X 2 dX10_readPoint_103 rfl ?_
      refine q_bipush (v := 33) X dX10_readPoint_104 (by decide) ?_
      refine q_bipush (v := 32) X dX10_readPoint_106 (by decide) ?_
      refine q_iload_n X 1 dX10_readPoint_108 rfl ?_
      refine q_iload_n X 0 dX10_readPoint_109 rfl ?_
      obtain ⟨r16, e_r16⟩ : ∃ z : Nat → Int32, z = S_X10_insert_P σ ((S_X10_takeNumber r4 τ (be + 1) 400).1) ((S_X10_takeNumber r5 τ 0 3000).1) := ⟨_, rfl⟩
      refine q_callV (h1 := _) (rest := []) (As := [.int 33, .int 32, .int ((S_X10_takeNumber r4 τ (be + 1) 400).1), .int ((S_X10_takeNumber r5 τ 0 3000).1)]) X (c_X10_insert_P (l := l) hG (σ := σ)  ((S_X10_takeNumber r4 τ (be + 1) 400).1) ((S_X10_takeNumber r5 τ 0 3000).1) hM ((va_up_ne _ _ (by decide)).trans (hr_37)) hs) mf_X10_insert mv_X10_insert cf_X10 rfl (ac_9_0 hT_36) lk_X10_57 rfl ⟨by decide, by decide⟩ ⟨Nat.le_refl _, Nat.le_refl _⟩ rfl (Nat.le_of_ble_eq_true rfl) dX10_readPoint_110 (st2 := []) rfl ?_
      refine q_eq (h2 := va_up (va_up h 36 r13) 37 r16) (by rw [e_r16]) rfl ?_
      refine q_sub (lv2 := [(3, .int ((S_X10_takeNumber r5 τ 0 3000).1)), (2, .int ((S_X10_takeNumber r4 τ (be + 1) 400).1)), (0, .ref (gA G 36 0)), (1, .int be)]) [0, 1, 2, 3] rfl ?_
      exact hJ17 r16 (by subst e_r16; exact ((if_pos c14).trans rfl).symm)
  intro m15 e_m15
  have E : Z = (r13, m15) := by subst e_m15; subst e_r13; subst e_r12; subst e_m9; subst e_r7; subst e_r6; subst e_r5; subst e_r4; subst e_m2; exact hZ.symm.trans (rfl)
  exact q_vret X hret dX10_readPoint_113 rfl (by rw [E])
