def hK0 : Hp := hINI
def hK1 : Hp := va_up hK0 4 (S_X6_set (hK0 4) 6 1000 2)
def hK2 : Hp := va_up hK1 4 (S_X6_set (hK1 4) 6 1500 6)
def hK3 : Hp := va_up hK2 4 (S_X6_set (hK2 4) 6 1900 14)
def hK4 : Hp := va_up hK3 4 (S_X6_set (hK3 4) 6 2100 25)
theorem q_cret {G : Geo} {D : va_G} {p : Program} {l : Launch} {e : Env} {R : Room} {s : State} {m : MethodId} {args : Array Value} {below : List Frame} {meth : Method} {c : Code} {nL : Nat} {own : String} {cc : ByteArray} {pc a mc ms : Nat} {lv : List (Nat × Value)} {e0 : va_E} {W1 : (Nat → Nat) → va_W} {h : Hp} (X : CX G (va_A [(a, e0)] s.heap.size) p s m meth c own cc nL) (hr : meth.sig.returnType = none) (hd : decode cc pc = .ok (.return_, 1)) (u : Nat → Nat) (hD : gD G = D) (hu : wl G h = W1 u) : VV G (va_A [(a, e0)] s.heap.size) p l e R s m args below meth c mc ms (MQ below (va_Qv (fun _ : Nat → Nat => True) (fun u t => va_P D vwCl (W1 u) t.heap ∧ va_D (va_A [(a, e0)] s.heap.size) (W1 u)) (va_A [(a, e0)] s.heap.size)) args s mc ms (va_A [(a, e0)] s.heap.size)) nL h pc lv [] := fun H locs ls hP hS hl => by
  subst hD
  have d := wl_D X.2.2.2.2.2.1 X.2.2.2.2.2.2.1 (ar_nd G) h
  rw [hu] at hP d
  exact W.vret X.1 X.2.1 hr (fun t ht hW => ⟨⟨u, rfl, trivial, by rw [ht]; exact hP, d⟩, hS.F ht⟩) hS.2.2 hd X.2.2.2.2.2.2.2
set_option maxRecDepth 100000 in
set_option maxHeartbeats 8000000 in
theorem c_X9_init {D : va_G} {cI cS : ClassId} {l : Launch} (a : Nat) : CN D cI cS l yX9_init cX9_init 1 5 93 90 896 a [] (.inr (9, [.null, .null, .null, .null, .null, .null, .null, .null, .null, .null])) (fun u => wl (D, cI, cS, T9, gaK a u) hK4) := by
  refine z_enter mf_X9_init rfl (Nat.le_of_ble_eq_true rfl) ?_
  intro p e s m below meth c X hret hin hA hO
  refine z_lv (lv2 := [(0, .ref a)]) rfl ?_
  refine z_aload_n X 0 dX9_init_0 rfl ?_
  refine z_obj X lk_X9_1 oi_i oi_c (Nat.le_of_ble_eq_true rfl) (Nat.le_of_ble_eq_true rfl) dX9_init_1 ?_
  refine z_aload_n X 0 dX9_init_4 rfl ?_
  refine z_new (c2 := 1) (s2 := 4) X hA cf_X7 cl_X9_7 in_X7 ini_X7 df_X7 (Nat.le_of_ble_eq_true rfl) (Nat.le_of_ble_eq_true rfl) rfl rfl dX9_init_5 (fun q1 => ?_)
  refine z_dup X dX9_init_8 rfl ?_
  refine z_ctorN (W1 := wX7 cI q1) X hA hO (c_X7_init (D := D) (cI := cI) (cS := cS) (l := l) _) mf_X7_init mi_X7_init rfl ln_X9_9 rfl ⟨(Nat.le_of_ble_eq_true rfl), (Nat.le_of_ble_eq_true rfl)⟩ ⟨(Nat.le_of_ble_eq_true rfl), (Nat.le_of_ble_eq_true rfl)⟩ rfl (Nat.le_of_ble_eq_true rfl) (c2 := 13) (s2 := 122) rfl rfl dX9_init_9 (fun u2 => ?_)
  refine z_putF (fk := 0) (ws2 := ([(a, .inr (9, [.ref q1, .null, .null, .null, .null, .null, .null, .null, .null, .null]))] ++ wX7 cI q1 u2)) X hin 0 cf_X9 rfl (by decide) fl_X9_10 rfl rfl rfl rfl rfl (Nat.le_of_ble_eq_true rfl) rfl dX9_init_12 ?_
  refine z_aload_n X 0 dX9_init_15 rfl ?_
  refine z_aload_n X 0 dX9_init_16 rfl ?_
  refine z_get (fk := 0) (v := .ref q1) X 0 cf_X9 rfl (by decide) fl_X9_10 rfl rfl dX9_init_17 ?_
  refine z_get (fk := 0) (v := .ref (u2 0)) X 1 cf_X7 rfl (by decide) fl_X9_16 rfl rfl dX9_init_20 ?_
  refine z_putF (fk := 1) (ws2 := ([(a, .inr (9, [.ref q1, .ref (u2 0), .null, .null, .null, .null, .null, .null, .null, .null]))] ++ wX7 cI q1 u2)) X hin 0 cf_X9 rfl (by decide) fl_X9_20 rfl rfl rfl rfl rfl (Nat.le_of_ble_eq_true rfl) rfl dX9_init_23 ?_
  refine z_aload_n X 0 dX9_init_26 rfl ?_
  refine z_aload_n X 0 dX9_init_27 rfl ?_
  refine z_get (fk := 1) (v := .ref (u2 0)) X 0 cf_X9 rfl (by decide) fl_X9_20 rfl rfl dX9_init_28 ?_
  refine z_get (fk := 0) (v := .ref (u2 1)) X 2 cf_X4 rfl (by decide) fl_X9_21 rfl rfl dX9_init_31 ?_
  refine z_putF (fk := 2) (ws2 := ([(a, .inr (9, [.ref q1, .ref (u2 0), .ref (u2 1), .null, .null, .null, .null, .null, .null, .null]))] ++ wX7 cI q1 u2)) X hin 0 cf_X9 rfl (by decide) fl_X9_27 rfl rfl rfl rfl rfl (Nat.le_of_ble_eq_true rfl) rfl dX9_init_34 ?_
  refine z_aload_n X 0 dX9_init_37 rfl ?_
  refine z_aload_n X 0 dX9_init_38 rfl ?_
  refine z_get (fk := 0) (v := .ref q1) X 0 cf_X9 rfl (by decide) fl_X9_10 rfl rfl dX9_init_39 ?_
  refine z_get (fk := 1) (v := .ref (u2 4)) X 1 cf_X7 rfl (by decide) fl_X9_28 rfl rfl dX9_init_42 ?_
  refine z_putF (fk := 3) (ws2 := ([(a, .inr (9, [.ref q1, .ref (u2 0), .ref (u2 1), .ref (u2 4), .null, .null, .null, .null, .null, .null]))] ++ wX7 cI q1 u2)) X hin 0 cf_X9 rfl (by decide) fl_X9_32 rfl rfl rfl rfl rfl (Nat.le_of_ble_eq_true rfl) rfl dX9_init_45 ?_
  refine z_aload_n X 0 dX9_init_48 rfl ?_
  refine z_aload_n X 0 dX9_init_49 rfl ?_
  refine z_get (fk := 0) (v := .ref q1) X 0 cf_X9 rfl (by decide) fl_X9_10 rfl rfl dX9_init_50 ?_
  refine z_get (fk := 2) (v := .ref (u2 7)) X 1 cf_X7 rfl (by decide) fl_X9_33 rfl rfl dX9_init_53 ?_
  refine z_putF (fk := 4) (ws2 := ([(a, .inr (9, [.ref q1, .ref (u2 0), .ref (u2 1), .ref (u2 4), .ref (u2 7), .null, .null, .null, .null, .null]))] ++ wX7 cI q1 u2)) X hin 0 cf_X9 rfl (by decide) fl_X9_36 rfl rfl rfl rfl rfl (Nat.le_of_ble_eq_true rfl) rfl dX9_init_56 ?_
  refine z_aload_n X 0 dX9_init_59 rfl ?_
  refine z_aload_n X 0 dX9_init_60 rfl ?_
  refine z_get (fk := 0) (v := .ref q1) X 0 cf_X9 rfl (by decide) fl_X9_10 rfl rfl dX9_init_61 ?_
  refine z_get (fk := 3) (v := .ref (u2 10)) X 1 cf_X7 rfl (by decide) fl_X9_37 rfl rfl dX9_init_64 ?_
  refine z_putF (fk := 5) (ws2 := ([(a, .inr (9, [.ref q1, .ref (u2 0), .ref (u2 1), .ref (u2 4), .ref (u2 7), .ref (u2 10), .null, .null, .null, .null]))] ++ wX7 cI q1 u2)) X hin 0 cf_X9 rfl (by decide) fl_X9_41 rfl rfl rfl rfl rfl (Nat.le_of_ble_eq_true rfl) rfl dX9_init_67 ?_
  refine z_aload_n X 0 dX9_init_70 rfl ?_
  refine z_new (c2 := 14) (s2 := 125) X hA cf_X1 cl_X9_42 in_X1 ini_X1 df_X1 (Nat.le_of_ble_eq_true rfl) (Nat.le_of_ble_eq_true rfl) rfl rfl dX9_init_71 (fun q3 => ?_)
  refine z_dup X dX9_init_74 rfl ?_
  refine z_ctor (W1 := wX1 cI cS q3) X hA hO (c_X1_init (D := D) (cI := cI) (cS := cS) (l := l) _) mf_X1_init mi_X1_init rfl lk_X9_44 rfl ⟨(Nat.le_of_ble_eq_true rfl), (Nat.le_of_ble_eq_true rfl)⟩ ⟨(Nat.le_of_ble_eq_true rfl), (Nat.le_of_ble_eq_true rfl)⟩ rfl (Nat.le_of_ble_eq_true rfl) (c2 := 80) (s2 := 740) rfl rfl dX9_init_75 (fun u4 => ?_)
  refine z_putF (fk := 6) (ws2 := (([(a, .inr (9, [.ref q1, .ref (u2 0), .ref (u2 1), .ref (u2 4), .ref (u2 7), .ref (u2 10), .ref q3, .null, .null, .null]))] ++ wX7 cI q1 u2) ++ wX1 cI cS q3 u4)) X hin 0 cf_X9 rfl (by decide) fl_X9_45 rfl rfl rfl rfl rfl (Nat.le_of_ble_eq_true rfl) rfl dX9_init_78 ?_
  refine z_aload_n X 0 dX9_init_81 rfl ?_
  refine z_new (c2 := 81) (s2 := 742) X hA cf_X8 cl_X9_49 in_X8 ini_X8 df_X8 (Nat.le_of_ble_eq_true rfl) (Nat.le_of_ble_eq_true rfl) rfl rfl dX9_init_82 (fun q5 => ?_)
  refine z_dup X dX9_init_85 rfl ?_
  refine z_ctorN (W1 := wX8 cI q5) X hA hO (c_X8_init (D := D) (cI := cI) (cS := cS) (l := l) _) mf_X8_init mi_X8_init rfl ln_X9_51 rfl ⟨(Nat.le_of_ble_eq_true rfl), (Nat.le_of_ble_eq_true rfl)⟩ ⟨(Nat.le_of_ble_eq_true rfl), (Nat.le_of_ble_eq_true rfl)⟩ rfl (Nat.le_of_ble_eq_true rfl) (c2 := 82) (s2 := 842) rfl rfl dX9_init_86 (fun u6 => ?_)
  refine z_putF (fk := 7) (ws2 := ((([(a, .inr (9, [.ref q1, .ref (u2 0), .ref (u2 1), .ref (u2 4), .ref (u2 7), .ref (u2 10), .ref q3, .ref q5, .null, .null]))] ++ wX7 cI q1 u2) ++ wX1 cI cS q3 u4) ++ wX8 cI q5 u6)) X hin 0 cf_X9 rfl (by decide) fl_X9_52 rfl rfl rfl rfl rfl (Nat.le_of_ble_eq_true rfl) rfl dX9_init_89 ?_
  refine z_aload_n X 0 dX9_init_92 rfl ?_
  refine z_new (c2 := 83) (s2 := 844) X hA cf_X3 cl_X9_56 in_X3 ini_X3 df_X3 (Nat.le_of_ble_eq_true rfl) (Nat.le_of_ble_eq_true rfl) rfl rfl dX9_init_93 (fun q7 => ?_)
  refine z_dup X dX9_init_96 rfl ?_
  refine z_ctorN (W1 := wX3 cI q7) X hA hO (c_X3_init (D := D) (cI := cI) (cS := cS) (l := l) _) mf_X3_init mi_X3_init rfl ln_X9_58 rfl ⟨(Nat.le_of_ble_eq_true rfl), (Nat.le_of_ble_eq_true rfl)⟩ ⟨(Nat.le_of_ble_eq_true rfl), (Nat.le_of_ble_eq_true rfl)⟩ rfl (Nat.le_of_ble_eq_true rfl) (c2 := 86) (s2 := 863) rfl rfl dX9_init_97 (fun u8 => ?_)
  refine z_putF (fk := 8) (ws2 := (((([(a, .inr (9, [.ref q1, .ref (u2 0), .ref (u2 1), .ref (u2 4), .ref (u2 7), .ref (u2 10), .ref q3, .ref q5, .ref q7, .null]))] ++ wX7 cI q1 u2) ++ wX1 cI cS q3 u4) ++ wX8 cI q5 u6) ++ wX3 cI q7 u8)) X hin 0 cf_X9 rfl (by decide) fl_X9_59 rfl rfl rfl rfl rfl (Nat.le_of_ble_eq_true rfl) rfl dX9_init_100 ?_
  refine z_aload_n X 0 dX9_init_103 rfl ?_
  refine z_new (c2 := 87) (s2 := 871) X hA cf_X4 cl_X9_22 in_X4 ini_X4 df_X4 (Nat.le_of_ble_eq_true rfl) (Nat.le_of_ble_eq_true rfl) rfl rfl dX9_init_104 (fun q9 => ?_)
  refine z_dup X dX9_init_107 rfl ?_
  refine z_ctorN (W1 := wX4 cI q9) X hA hO (c_X4_init (D := D) (cI := cI) (cS := cS) (l := l) _) mf_X4_init mi_X4_init rfl ln_X9_63 rfl ⟨(Nat.le_of_ble_eq_true rfl), (Nat.le_of_ble_eq_true rfl)⟩ ⟨(Nat.le_of_ble_eq_true rfl), (Nat.le_of_ble_eq_true rfl)⟩ rfl (Nat.le_of_ble_eq_true rfl) (c2 := 90) (s2 := 896) rfl rfl dX9_init_108 (fun u10 => ?_)
  refine z_putF (fk := 9) (ws2 := ((((([(a, .inr (9, [.ref q1, .ref (u2 0), .ref (u2 1), .ref (u2 4), .ref (u2 7), .ref (u2 10), .ref q3, .ref q5, .ref q7, .ref q9]))] ++ wX7 cI q1 u2) ++ wX1 cI cS q3 u4) ++ wX8 cI q5 u6) ++ wX3 cI q7 u8) ++ wX4 cI q9 u10)) X hin 0 cf_X9 rfl (by decide) fl_X9_64 rfl rfl rfl rfl rfl (Nat.le_of_ble_eq_true rfl) rfl dX9_init_111 ?_
  obtain ⟨u, eu⟩ : ∃ u : Nat → Nat, u = fun n => ([q1, 0, 0, 0, u2 0, u2 1, u2 2, u2 3, u2 4, u2 5, u2 6, 0, u2 7, u2 8, u2 9, 0, u2 10, u2 11, 0, 0, q9, u10 0, u10 1, u10 2, q5, u6 0, 0, 0, q7, 0, 0, 0, u8 0, u8 1, u8 2, 0, q3, u4 0, 0, 0, u4 1, 0, 0, 0, u4 2, u4 3, u4 4, u4 5, u4 6, u4 7, u4 8, 0, u4 9, u4 10, u4 11, 0, u4 12, u4 13, 0, 0, u4 14, 0, 0, 0, u4 15, u4 16, u4 17, u4 18, u4 19, u4 20, u4 21, 0, u4 22, u4 23, u4 24, 0, u4 25, u4 26, 0, 0, u4 27, 0, 0, 0, u4 28, u4 29, u4 30, u4 31, u4 32, u4 33, u4 34, 0, u4 35, u4 36, u4 37, 0, u4 38, u4 39, 0, 0, u4 40, 0, 0, 0, u4 41, u4 42, u4 43, u4 44, u4 45, u4 46, u4 47, 0, u4 48, u4 49, u4 50, 0, u4 51, u4 52, 0, 0, u4 53, 0, 0, 0, u4 54, u4 55, u4 56, u4 57, u4 58, u4 59, u4 60, 0, u4 61, u4 62, u4 63, 0, u4 64, u4 65, 0, 0, 0, 0, 0, 0, 0, 0, 0, 0, 0, 0, 0, 0, 0, 0, 0, 0, 0, 0, 0, 0, 0, 0, 0, 0] : List Nat).getD n 0 := ⟨_, rfl⟩
  have ew := wl9 (D := D) (cI := cI) (cS := cS) (a := a) (q1 := q1) (qh := q3) (qt := q5) (qr := q7) (qo := q9) (u1 := u2) (uh := u4) (ut := u6) (ur := u8) (uo := u10) eu
  refine z_arena (T := T9) (ga := gaK a u) (h := hINI) X (fun g hg => T9_42 g (by omega)) (fun H hP => ?_) (fun hD => ?_) (fun X d => ?_)
  · rw [ew]
    refine va_P.blocks (wX1_f (fun k hk => ?_)) hP
    rcases (show k = 0 ∨ k = 1 ∨ k = 2 ∨ k = 3 ∨ k = 4 by omega) with rfl | rfl | rfl | rfl | rfl <;> (subst eu; rfl)
  · rw [ew]
    exact va_D.blocks (b := wX1 cI cS q3 u4) rfl hD
  obtain ⟨G, hGe⟩ : ∃ G : Geo, G = (D, cI, cS, T9, gaK a u) := ⟨_, rfl⟩
  have hG : GOK G := by rw [hGe]; exact X.2.2.2.2.2.1
  have hT_0 : gT G 0 = 0 := by rw [hGe]; rfl
  have hT_4 : gT G 4 = 3 := by rw [hGe]; rfl
  have ha : a = gA G 0 0 := by rw [hGe]; rfl
  have hDe : gD G = D := by rw [hGe]; rfl
  have hwe : wl G hK4 = (fun u => wl (D, cI, cS, T9, gaK a u) hK4) u := by rw [hGe]
  refine q_lv (lv2 := [(0, .ref (gA G 0 0))]) (by rw [← ha]) ?_
  rw [← hGe] at X ⊢
  show VV G _ p l e _ s m _ below meth c _ _ _ _ hK0 _ _ _
  refine q_aload_n X 0 dX9_init_114 rfl ?_
  refine q_get (fk := 4) (v := .ref (gA G 4 0)) X cf_X9 (ac_0_0 hT_0) (by decide) fl_X9_36 rfl rfl dX9_init_115 rfl ?_
  refine q_sipush (v := 1000) X dX9_init_118 (by decide) ?_
  refine q_iconst (v := 2) X dX9_init_121 (by decide) ?_
  refine q_callV (h1 := hK1) (rest := []) (As := [.int 1000, .int 2]) X (c_X6_set (l := l) hG (ρ := hK0 4) (n := 6) 1000 2 hT_4 rfl (by rw [hT_4]; rfl)) mf_X6_set mv_X6_set cf_X6 rfl (ac_3_0 hT_4) lk_X9_67 rfl ⟨by decide, by decide⟩ ⟨Nat.le_refl _, Nat.le_refl _⟩ rfl (Nat.le_of_ble_eq_true rfl) dX9_init_122 (st2 := []) rfl ?_
  refine q_aload_n X 0 dX9_init_125 rfl ?_
  refine q_get (fk := 4) (v := .ref (gA G 4 0)) X cf_X9 (ac_0_0 hT_0) (by decide) fl_X9_36 rfl rfl dX9_init_126 rfl ?_
  refine q_sipush (v := 1500) X dX9_init_129 (by decide) ?_
  refine q_bipush (v := 6) X dX9_init_132 (by decide) ?_
  refine q_callV (h1 := hK2) (rest := []) (As := [.int 1500, .int 6]) X (c_X6_set (l := l) hG (ρ := hK1 4) (n := 6) 1500 6 hT_4 rfl (by rw [hT_4]; rfl)) mf_X6_set mv_X6_set cf_X6 rfl (ac_3_0 hT_4) lk_X9_67 rfl ⟨by decide, by decide⟩ ⟨Nat.le_refl _, Nat.le_refl _⟩ rfl (Nat.le_of_ble_eq_true rfl) dX9_init_134 (st2 := []) rfl ?_
  refine q_aload_n X 0 dX9_init_137 rfl ?_
  refine q_get (fk := 4) (v := .ref (gA G 4 0)) X cf_X9 (ac_0_0 hT_0) (by decide) fl_X9_36 rfl rfl dX9_init_138 rfl ?_
  refine q_sipush (v := 1900) X dX9_init_141 (by decide) ?_
  refine q_bipush (v := 14) X dX9_init_144 (by decide) ?_
  refine q_callV (h1 := hK3) (rest := []) (As := [.int 1900, .int 14]) X (c_X6_set (l := l) hG (ρ := hK2 4) (n := 6) 1900 14 hT_4 rfl (by rw [hT_4]; rfl)) mf_X6_set mv_X6_set cf_X6 rfl (ac_3_0 hT_4) lk_X9_67 rfl ⟨by decide, by decide⟩ ⟨Nat.le_refl _, Nat.le_refl _⟩ rfl (Nat.le_of_ble_eq_true rfl) dX9_init_146 (st2 := []) rfl ?_
  refine q_aload_n X 0 dX9_init_149 rfl ?_
  refine q_get (fk := 4) (v := .ref (gA G 4 0)) X cf_X9 (ac_0_0 hT_0) (by decide) fl_X9_36 rfl rfl dX9_init_150 rfl ?_
  refine q_sipush (v := 2100) X dX9_init_153 (by decide) ?_
  refine q_bipush (v := 25) X dX9_init_156 (by decide) ?_
  refine q_callV (h1 := hK4) (rest := []) (As := [.int 2100, .int 25]) X (c_X6_set (l := l) hG (ρ := hK3 4) (n := 6) 2100 25 hT_4 rfl (by rw [hT_4]; rfl)) mf_X6_set mv_X6_set cf_X6 rfl (ac_3_0 hT_4) lk_X9_67 rfl ⟨by decide, by decide⟩ ⟨Nat.le_refl _, Nat.le_refl _⟩ rfl (Nat.le_of_ble_eq_true rfl) dX9_init_158 (st2 := []) rfl ?_
  exact q_cret X hret dX9_init_161 u hDe hwe
