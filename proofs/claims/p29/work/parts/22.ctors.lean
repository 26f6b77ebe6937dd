theorem z_lv {D : va_G} {A : Nat → Prop} {p : Program} {l : Launch} {e : Env} {R : Room} {s : State} {m : MethodId} {args : Array Value} {below : List Frame} {meth : Method} {c : Code} {cells slots : Nat} {Q : State → Prop} {nL : Nat} {ws : va_W} {pc : Nat} {lv lv2 : List (Nat × Value)} {st : List Value} (e1 : lv = lv2) (k : VC D A p l e R s m args below meth c cells slots Q nL ws (pc) lv2 (st)) : VC D A p l e R s m args below meth c cells slots Q nL ws (pc) lv (st) := by subst e1; exact k
set_option maxRecDepth 100000 in
set_option maxHeartbeats 8000000 in
theorem c_X5_init {D : va_G} {cI cS : ClassId} {l : Launch} (a : Nat) : CN D cI cS l yX5_init cX5_init 1 1 12 0 0 a [] (.inr (5, [.int 0, .int 0, .int 0, .int 0, .int 0, .int 0, .int 0, .int 0, .int 0, .int 0])) (wX5 a) := by
  refine z_enter mf_X5_init rfl (Nat.le_of_ble_eq_true rfl) ?_
  intro p e s m below meth c X hret hin hA hO
  refine z_lv (lv2 := [(0, .ref a)]) rfl ?_
  refine z_aload_n X 0 dX5_init_0 rfl ?_
  refine z_obj X lk_X5_1 oi_i oi_c (Nat.le_of_ble_eq_true rfl) (Nat.le_of_ble_eq_true rfl) dX5_init_1 ?_
  refine z_aload_n X 0 dX5_init_4 rfl ?_
  refine z_sipush (v := 250) X dX5_init_5 (by decide) ?_
  refine z_put (fk := 0) (ws2 := [(a, .inr (5, [.int 250, .int 0, .int 0, .int 0, .int 0, .int 0, .int 0, .int 0, .int 0, .int 0]))]) X 0 cf_X5 rfl (by decide) fl_X5_7 rfl rfl rfl rfl (Nat.le_of_ble_eq_true rfl) rfl dX5_init_8 ?_
  refine z_aload_n X 0 dX5_init_11 rfl ?_
  refine z_iconst (v := 0) X dX5_init_12 (by decide) ?_
  refine z_put (fk := 1) (ws2 := [(a, .inr (5, [.int 250, .int 0, .int 0, .int 0, .int 0, .int 0, .int 0, .int 0, .int 0, .int 0]))]) X 0 cf_X5 rfl (by decide) fl_X5_13 rfl rfl rfl rfl (Nat.le_of_ble_eq_true rfl) rfl dX5_init_13 ?_
  refine z_aload_n X 0 dX5_init_16 rfl ?_
  refine z_bipush (v := 50) X dX5_init_17 (by decide) ?_
  refine z_put (fk := 2) (ws2 := [(a, .inr (5, [.int 250, .int 0, .int 50, .int 0, .int 0, .int 0, .int 0, .int 0, .int 0, .int 0]))]) X 0 cf_X5 rfl (by decide) fl_X5_16 rfl rfl rfl rfl (Nat.le_of_ble_eq_true rfl) rfl dX5_init_19 ?_
  refine z_aload_n X 0 dX5_init_22 rfl ?_
  refine z_iconst (v := 5) X dX5_init_23 (by decide) ?_
  refine z_put (fk := 3) (ws2 := [(a, .inr (5, [.int 250, .int 0, .int 50, .int 5, .int 0, .int 0, .int 0, .int 0, .int 0, .int 0]))]) X 0 cf_X5 rfl (by decide) fl_X5_19 rfl rfl rfl rfl (Nat.le_of_ble_eq_true rfl) rfl dX5_init_24 ?_
  refine z_aload_n X 0 dX5_init_27 rfl ?_
  refine z_bipush (v := 50) X dX5_init_28 (by decide) ?_
  refine z_put (fk := 4) (ws2 := [(a, .inr (5, [.int 250, .int 0, .int 50, .int 5, .int 50, .int 0, .int 0, .int 0, .int 0, .int 0]))]) X 0 cf_X5 rfl (by decide) fl_X5_22 rfl rfl rfl rfl (Nat.le_of_ble_eq_true rfl) rfl dX5_init_30 ?_
  refine z_aload_n X 0 dX5_init_33 rfl ?_
  refine z_iconst (v := 4) X dX5_init_34 (by decide) ?_
  refine z_put (fk := 5) (ws2 := [(a, .inr (5, [.int 250, .int 0, .int 50, .int 5, .int 50, .int 4, .int 0, .int 0, .int 0, .int 0]))]) X 0 cf_X5 rfl (by decide) fl_X5_25 rfl rfl rfl rfl (Nat.le_of_ble_eq_true rfl) rfl dX5_init_35 ?_
  refine z_aload_n X 0 dX5_init_38 rfl ?_
  refine z_iconst (v := 0) X dX5_init_39 (by decide) ?_
  refine z_put (fk := 6) (ws2 := [(a, .inr (5, [.int 250, .int 0, .int 50, .int 5, .int 50, .int 4, .int 0, .int 0, .int 0, .int 0]))]) X 0 cf_X5 rfl (by decide) fl_X5_28 rfl rfl rfl rfl (Nat.le_of_ble_eq_true rfl) rfl dX5_init_40 ?_
  refine z_aload_n X 0 dX5_init_43 rfl ?_
  refine z_sipush (v := 1960) X dX5_init_44 (by decide) ?_
  refine z_put (fk := 7) (ws2 := [(a, .inr (5, [.int 250, .int 0, .int 50, .int 5, .int 50, .int 4, .int 0, .int 1960, .int 0, .int 0]))]) X 0 cf_X5 rfl (by decide) fl_X5_31 rfl rfl rfl rfl (Nat.le_of_ble_eq_true rfl) rfl dX5_init_47 ?_
  refine z_aload_n X 0 dX5_init_50 rfl ?_
  refine z_bipush (v := 30) X dX5_init_51 (by decide) ?_
  refine z_put (fk := 8) (ws2 := [(a, .inr (5, [.int 250, .int 0, .int 50, .int 5, .int 50, .int 4, .int 0, .int 1960, .int 30, .int 0]))]) X 0 cf_X5 rfl (by decide) fl_X5_34 rfl rfl rfl rfl (Nat.le_of_ble_eq_true rfl) rfl dX5_init_53 ?_
  refine z_aload_n X 0 dX5_init_56 rfl ?_
  refine z_bipush (v := 10) X dX5_init_57 (by decide) ?_
  refine z_put (fk := 9) (ws2 := [(a, .inr (5, [.int 250, .int 0, .int 50, .int 5, .int 50, .int 4, .int 0, .int 1960, .int 30, .int 10]))]) X 0 cf_X5 rfl (by decide) fl_X5_37 rfl rfl rfl rfl (Nat.le_of_ble_eq_true rfl) rfl dX5_init_59 ?_
  obtain ⟨u, eu⟩ : ∃ u : Nat → Nat, u = fun n => ([] : List Nat).getD n 0 := ⟨_, rfl⟩
  refine z_eq (ws2 := wX5 a u) (by subst eu; rfl) ?_
  exact z_vret X hret dX5_init_62 u (fun _ h => h) (fun _ h => h)
set_option maxRecDepth 100000 in
set_option maxHeartbeats 8000000 in
theorem c_X0_init {D : va_G} {cI cS : ClassId} {l : Launch} (a : Nat) : CN D cI cS l yX0_init cX0_init 1 1 12 1 6 a [] (.inr (0, [.int 0, .int 0, .int 0, .int 0, .int 0, .null, .int 0, .int 0, .int 0])) (wX0 cI a) := by
  refine z_enter mf_X0_init rfl (Nat.le_of_ble_eq_true rfl) ?_
  intro p e s m below meth c X hret hin hA hO
  refine z_lv (lv2 := [(0, .ref a)]) rfl ?_
  refine z_aload_n X 0 dX0_init_0 rfl ?_
  refine z_obj X lk_X0_3 oi_i oi_c (Nat.le_of_ble_eq_true rfl) (Nat.le_of_ble_eq_true rfl) dX0_init_1 ?_
  refine z_aload_n X 0 dX0_init_4 rfl ?_
  refine z_iconst (v := 0) X dX0_init_5 (by decide) ?_
  refine z_put (fk := 0) (ws2 := [(a, .inr (0, [.int 0, .int 0, .int 0, .int 0, .int 0, .null, .int 0, .int 0, .int 0]))]) X 0 cf_X0 rfl (by decide) fl_X0_9 rfl rfl rfl rfl (Nat.le_of_ble_eq_true rfl) rfl dX0_init_6 ?_
  refine z_aload_n X 0 dX0_init_9 rfl ?_
  refine z_iconst (v := 0) X dX0_init_10 (by decide) ?_
  refine z_put (fk := 1) (ws2 := [(a, .inr (0, [.int 0, .int 0, .int 0, .int 0, .int 0, .null, .int 0, .int 0, .int 0]))]) X 0 cf_X0 rfl (by decide) fl_X0_15 rfl rfl rfl rfl (Nat.le_of_ble_eq_true rfl) rfl dX0_init_11 ?_
  refine z_aload_n X 0 dX0_init_14 rfl ?_
  refine z_iconst (v := 0) X dX0_init_15 (by decide) ?_
  refine z_put (fk := 2) (ws2 := [(a, .inr (0, [.int 0, .int 0, .int 0, .int 0, .int 0, .null, .int 0, .int 0, .int 0]))]) X 0 cf_X0 rfl (by decide) fl_X0_18 rfl rfl rfl rfl (Nat.le_of_ble_eq_true rfl) rfl dX0_init_16 ?_
  refine z_aload_n X 0 dX0_init_19 rfl ?_
  refine z_iconst (v := 0) X dX0_init_20 (by decide) ?_
  refine z_put (fk := 3) (ws2 := [(a, .inr (0, [.int 0, .int 0, .int 0, .int 0, .int 0, .null, .int 0, .int 0, .int 0]))]) X 0 cf_X0 rfl (by decide) fl_X0_21 rfl rfl rfl rfl (Nat.le_of_ble_eq_true rfl) rfl dX0_init_21 ?_
  refine z_aload_n X 0 dX0_init_24 rfl ?_
  refine z_iconst (v := 0) X dX0_init_25 (by decide) ?_
  refine z_put (fk := 4) (ws2 := [(a, .inr (0, [.int 0, .int 0, .int 0, .int 0, .int 0, .null, .int 0, .int 0, .int 0]))]) X 0 cf_X0 rfl (by decide) fl_X0_24 rfl rfl rfl rfl (Nat.le_of_ble_eq_true rfl) rfl dX0_init_26 ?_
  refine z_aload_n X 0 dX0_init_29 rfl ?_
  refine z_bipush (v := 6) X dX0_init_30 (by decide) ?_
  refine z_newa (N := 6) (c2 := 1) (s2 := 6) X hA (by decide) (by decide) (Nat.le_of_ble_eq_true rfl) (Nat.le_of_ble_eq_true rfl) (Nat.le_of_ble_eq_true rfl) rfl rfl dX0_init_32 (fun q1 => ?_)
  refine z_putF (fk := 5) (ws2 := ([(a, .inr (0, [.int 0, .int 0, .int 0, .int 0, .int 0, .ref q1, .int 0, .int 0, .int 0]))] ++ [(q1, .inl (cI, 6, .inl (fun _ => 0)))])) X hin 0 cf_X0 rfl (by decide) fl_X0_27 rfl rfl rfl rfl rfl (Nat.le_of_ble_eq_true rfl) rfl dX0_init_34 ?_
  refine z_aload_n X 0 dX0_init_37 rfl ?_
  refine z_ldc X kc_X0_31 dX0_init_38 ?_
  refine z_put (fk := 6) (ws2 := ([(a, .inr (0, [.int 0, .int 0, .int 0, .int 0, .int 0, .ref q1, .int (-100009), .int 0, .int 0]))] ++ [(q1, .inl (cI, 6, .inl (fun _ => 0)))])) X 0 cf_X0 rfl (by decide) fl_X0_32 rfl rfl rfl rfl (Nat.le_of_ble_eq_true rfl) rfl dX0_init_40 ?_
  refine z_aload_n X 0 dX0_init_43 rfl ?_
  refine z_ldc X kc_X0_31 dX0_init_44 ?_
  refine z_put (fk := 7) (ws2 := ([(a, .inr (0, [.int 0, .int 0, .int 0, .int 0, .int 0, .ref q1, .int (-100009), .int (-100009), .int 0]))] ++ [(q1, .inl (cI, 6, .inl (fun _ => 0)))])) X 0 cf_X0 rfl (by decide) fl_X0_35 rfl rfl rfl rfl (Nat.le_of_ble_eq_true rfl) rfl dX0_init_46 ?_
  refine z_aload_n X 0 dX0_init_49 rfl ?_
  refine z_iconst (v := 0) X dX0_init_50 (by decide) ?_
  refine z_put (fk := 8) (ws2 := ([(a, .inr (0, [.int 0, .int 0, .int 0, .int 0, .int 0, .ref q1, .int (-100009), .int (-100009), .int 0]))] ++ [(q1, .inl (cI, 6, .inl (fun _ => 0)))])) X 0 cf_X0 rfl (by decide) fl_X0_38 rfl rfl rfl rfl (Nat.le_of_ble_eq_true rfl) rfl dX0_init_51 ?_
  obtain ⟨u, eu⟩ : ∃ u : Nat → Nat, u = fun n => ([q1] : List Nat).getD n 0 := ⟨_, rfl⟩
  refine z_eq (ws2 := wX0 cI a u) (by subst eu; unfold wX0; rw [ring_eq]; rfl) ?_
  exact z_vret X hret dX0_init_54 u (fun _ h => h) (fun _ h => h)
set_option maxRecDepth 100000 in
set_option maxHeartbeats 8000000 in
theorem c_X4_init {D : va_G} {cI cS : ClassId} {l : Launch} (a : Nat) : CN D cI cS l yX4_init cX4_init 1 2 32 3 25 a [] (.inr (4, [.null, .null, .int 0, .int 0, .int 0, .int 0, .int 0, .int 0])) (wX4 cI a) := by
  refine z_enter mf_X4_init rfl (Nat.le_of_ble_eq_true rfl) ?_
  intro p e s m below meth c X hret hin hA hO
  refine z_lv (lv2 := [(0, .ref a)]) rfl ?_
  refine z_aload_n X 0 dX4_init_0 rfl ?_
  refine z_obj X lk_X4_3 oi_i oi_c (Nat.le_of_ble_eq_true rfl) (Nat.le_of_ble_eq_true rfl) dX4_init_1 ?_
  refine z_aload_n X 0 dX4_init_4 rfl ?_
  refine z_new (c2 := 1) (s2 := 10) X hA cf_X5 cl_X4_9 in_X5 ini_X5 df_X5 (Nat.le_of_ble_eq_true rfl) (Nat.le_of_ble_eq_true rfl) rfl rfl dX4_init_5 (fun q1 => ?_)
  refine z_dup X dX4_init_8 rfl ?_
  refine z_ctorN (W1 := wX5 q1) X hA hO (c_X5_init (D := D) (cI := cI) (cS := cS) (l := l) _) mf_X5_init mi_X5_init rfl ln_X4_11 rfl ⟨(Nat.le_of_ble_eq_true rfl), (Nat.le_of_ble_eq_true rfl)⟩ ⟨(Nat.le_of_ble_eq_true rfl), (Nat.le_of_ble_eq_true rfl)⟩ rfl (Nat.le_of_ble_eq_true rfl) (c2 := 1) (s2 := 10) rfl rfl dX4_init_9 (fun u2 => ?_)
  refine z_putF (fk := 0) (ws2 := ([(a, .inr (4, [.ref q1, .null, .int 0, .int 0, .int 0, .int 0, .int 0, .int 0]))] ++ wX5 q1 u2)) X hin 0 cf_X4 rfl (by decide) fl_X4_12 rfl rfl rfl rfl rfl (Nat.le_of_ble_eq_true rfl) rfl dX4_init_12 ?_
  refine z_aload_n X 0 dX4_init_15 rfl ?_
  refine z_new (c2 := 2) (s2 := 19) X hA cf_X0 cl_X4_18 in_X0 ini_X0 df_X0 (Nat.le_of_ble_eq_true rfl) (Nat.le_of_ble_eq_true rfl) rfl rfl dX4_init_16 (fun q3 => ?_)
  refine z_dup X dX4_init_19 rfl ?_
  refine z_ctorN (W1 := wX0 cI q3) X hA hO (c_X0_init (D := D) (cI := cI) (cS := cS) (l := l) _) mf_X0_init mi_X0_init rfl ln_X4_20 rfl ⟨(Nat.le_of_ble_eq_true rfl), (Nat.le_of_ble_eq_true rfl)⟩ ⟨(Nat.le_of_ble_eq_true rfl), (Nat.le_of_ble_eq_true rfl)⟩ rfl (Nat.le_of_ble_eq_true rfl) (c2 := 3) (s2 := 25) rfl rfl dX4_init_20 (fun u4 => ?_)
  refine z_putF (fk := 1) (ws2 := (([(a, .inr (4, [.ref q1, .ref q3, .int 0, .int 0, .int 0, .int 0, .int 0, .int 0]))] ++ wX5 q1 u2) ++ wX0 cI q3 u4)) X hin 0 cf_X4 rfl (by decide) fl_X4_21 rfl rfl rfl rfl rfl (Nat.le_of_ble_eq_true rfl) rfl dX4_init_23 ?_
  refine z_aload_n X 0 dX4_init_26 rfl ?_
  refine z_iconst (v := 0) X dX4_init_27 (by decide) ?_
  refine z_put (fk := 2) (ws2 := (([(a, .inr (4, [.ref q1, .ref q3, .int 0, .int 0, .int 0, .int 0, .int 0, .int 0]))] ++ wX5 q1 u2) ++ wX0 cI q3 u4)) X 0 cf_X4 rfl (by decide) fl_X4_25 rfl rfl rfl rfl (Nat.le_of_ble_eq_true rfl) rfl dX4_init_28 ?_
  refine z_aload_n X 0 dX4_init_31 rfl ?_
  refine z_iconst (v := 0) X dX4_init_32 (by decide) ?_
  refine z_put (fk := 3) (ws2 := (([(a, .inr (4, [.ref q1, .ref q3, .int 0, .int 0, .int 0, .int 0, .int 0, .int 0]))] ++ wX5 q1 u2) ++ wX0 cI q3 u4)) X 0 cf_X4 rfl (by decide) fl_X4_29 rfl rfl rfl rfl (Nat.le_of_ble_eq_true rfl) rfl dX4_init_33 ?_
  refine z_aload_n X 0 dX4_init_36 rfl ?_
  refine z_sipush (v := 250) X dX4_init_37 (by decide) ?_
  refine z_put (fk := 4) (ws2 := (([(a, .inr (4, [.ref q1, .ref q3, .int 0, .int 0, .int 250, .int 0, .int 0, .int 0]))] ++ wX5 q1 u2) ++ wX0 cI q3 u4)) X 0 cf_X4 rfl (by decide) fl_X4_32 rfl rfl rfl rfl (Nat.le_of_ble_eq_true rfl) rfl dX4_init_40 ?_
  refine z_aload_n X 0 dX4_init_43 rfl ?_
  refine z_sipush (v := 250) X dX4_init_44 (by decide) ?_
  refine z_put (fk := 5) (ws2 := (([(a, .inr (4, [.ref q1, .ref q3, .int 0, .int 0, .int 250, .int 250, .int 0, .int 0]))] ++ wX5 q1 u2) ++ wX0 cI q3 u4)) X 0 cf_X4 rfl (by decide) fl_X4_35 rfl rfl rfl rfl (Nat.le_of_ble_eq_true rfl) rfl dX4_init_47 ?_
  refine z_aload_n X 0 dX4_init_50 rfl ?_
  refine z_iconst (v := 0) X dX4_init_51 (by decide) ?_
  refine z_put (fk := 6) (ws2 := (([(a, .inr (4, [.ref q1, .ref q3, .int 0, .int 0, .int 250, .int 250, .int 0, .int 0]))] ++ wX5 q1 u2) ++ wX0 cI q3 u4)) X 0 cf_X4 rfl (by decide) fl_X4_38 rfl rfl rfl rfl (Nat.le_of_ble_eq_true rfl) rfl dX4_init_52 ?_
  refine z_aload_n X 0 dX4_init_55 rfl ?_
  refine z_iconst (v := 0) X dX4_init_56 (by decide) ?_
  refine z_put (fk := 7) (ws2 := (([(a, .inr (4, [.ref q1, .ref q3, .int 0, .int 0, .int 250, .int 250, .int 0, .int 0]))] ++ wX5 q1 u2) ++ wX0 cI q3 u4)) X 0 cf_X4 rfl (by decide) fl_X4_41 rfl rfl rfl rfl (Nat.le_of_ble_eq_true rfl) rfl dX4_init_57 ?_
  obtain ⟨u, eu⟩ : ∃ u : Nat → Nat, u = fun n => ([q1, q3, u4 0] : List Nat).getD n 0 := ⟨_, rfl⟩
  refine z_eq (ws2 := wX4 cI a u) (by subst eu; rfl) ?_
  exact z_vret X hret dX4_init_60 u (fun _ h => h) (fun _ h => h)
set_option maxRecDepth 100000 in
set_option maxHeartbeats 8000000 in
theorem c_X6_8_init {D : va_G} {cI cS : ClassId} {l : Launch} (a : Nat) : CN D cI cS l yX6_init cX6_init 2 1 14 2 16 a [.int 8] (.inr (6, [.null, .null, .int 0])) (wX6 cI 8 a) := by
  refine z_enter mf_X6_init rfl (Nat.le_of_ble_eq_true rfl) ?_
  intro p e s m below meth c X hret hin hA hO
  refine z_lv (lv2 := [(0, .ref a), (1, .int 8)]) rfl ?_
  refine z_aload_n X 0 dX6_init_0 rfl ?_
  refine z_obj X lk_X6_1 oi_i oi_c (Nat.le_of_ble_eq_true rfl) (Nat.le_of_ble_eq_true rfl) dX6_init_1 ?_
  refine z_aload_n X 0 dX6_init_4 rfl ?_
  refine z_iconst (v := 0) X dX6_init_5 (by decide) ?_
  refine z_put (fk := 2) (ws2 := [(a, .inr (6, [.null, .null, .int 0]))]) X 0 cf_X6 rfl (by decide) fl_X6_7 rfl rfl rfl rfl (Nat.le_of_ble_eq_true rfl) rfl dX6_init_6 ?_
  refine z_aload_n X 0 dX6_init_9 rfl ?_
  refine z_iload_n X 1 dX6_init_10 rfl ?_
  refine z_iconst (v := 0) X dX6_init_11 (by decide) ?_
  refine z_max (z := 8) X mx_l mx_s mx_i mx_c (Nat.le_of_ble_eq_true rfl) (Nat.le_of_ble_eq_true rfl) (Nat.le_of_ble_eq_true rfl) (Nat.le_of_ble_eq_true rfl) (by decide) dX6_init_12 ?_
  refine z_newa (N := 8) (c2 := 1) (s2 := 8) X hA (by decide) (by decide) (Nat.le_of_ble_eq_true rfl) (Nat.le_of_ble_eq_true rfl) (Nat.le_of_ble_eq_true rfl) rfl rfl dX6_init_15 (fun q1 => ?_)
  refine z_putF (fk := 0) (ws2 := ([(a, .inr (6, [.ref q1, .null, .int 0]))] ++ [(q1, .inl (cI, 8, .inl (fun _ => 0)))])) X hin 0 cf_X6 rfl (by decide) fl_X6_19 rfl rfl rfl rfl rfl (Nat.le_of_ble_eq_true rfl) rfl dX6_init_17 ?_
  refine z_aload_n X 0 dX6_init_20 rfl ?_
  refine z_iload_n X 1 dX6_init_21 rfl ?_
  refine z_iconst (v := 0) X dX6_init_22 (by decide) ?_
  refine z_max (z := 8) X mx_l mx_s mx_i mx_c (Nat.le_of_ble_eq_true rfl) (Nat.le_of_ble_eq_true rfl) (Nat.le_of_ble_eq_true rfl) (Nat.le_of_ble_eq_true rfl) (by decide) dX6_init_23 ?_
  refine z_newa (N := 8) (c2 := 2) (s2 := 16) X hA (by decide) (by decide) (Nat.le_of_ble_eq_true rfl) (Nat.le_of_ble_eq_true rfl) (Nat.le_of_ble_eq_true rfl) rfl rfl dX6_init_26 (fun q2 => ?_)
  refine z_putF (fk := 1) (ws2 := (([(a, .inr (6, [.ref q1, .ref q2, .int 0]))] ++ [(q1, .inl (cI, 8, .inl (fun _ => 0)))]) ++ [(q2, .inl (cI, 8, .inl (fun _ => 0)))])) X hin 0 cf_X6 rfl (by decide) fl_X6_23 rfl rfl rfl rfl rfl (Nat.le_of_ble_eq_true rfl) rfl dX6_init_28 ?_
  obtain ⟨u, eu⟩ : ∃ u : Nat → Nat, u = fun n => ([q1, q2] : List Nat).getD n 0 := ⟨_, rfl⟩
  refine z_eq (ws2 := wX6 cI 8 a u) (by subst eu; rfl) ?_
  exact z_vret X hret dX6_init_31 u (fun _ h => h) (fun _ h => h)
set_option maxRecDepth 100000 in
set_option maxHeartbeats 8000000 in
theorem c_X6_6_init {D : va_G} {cI cS : ClassId} {l : Launch} (a : Nat) : CN D cI cS l yX6_init cX6_init 2 1 14 2 12 a [.int 6] (.inr (6, [.null, .null, .int 0])) (wX6 cI 6 a) := by
  refine z_enter mf_X6_init rfl (Nat.le_of_ble_eq_true rfl) ?_
  intro p e s m below meth c X hret hin hA hO
  refine z_lv (lv2 := [(0, .ref a), (1, .int 6)]) rfl ?_
  refine z_aload_n X 0 dX6_init_0 rfl ?_
  refine z_obj X lk_X6_1 oi_i oi_c (Nat.le_of_ble_eq_true rfl) (Nat.le_of_ble_eq_true rfl) dX6_init_1 ?_
  refine z_aload_n X 0 dX6_init_4 rfl ?_
  refine z_iconst (v := 0) X dX6_init_5 (by decide) ?_
  refine z_put (fk := 2) (ws2 := [(a, .inr (6, [.null, .null, .int 0]))]) X 0 cf_X6 rfl (by decide) fl_X6_7 rfl rfl rfl rfl (Nat.le_of_ble_eq_true rfl) rfl dX6_init_6 ?_
  refine z_aload_n X 0 dX6_init_9 rfl ?_
  refine z_iload_n X 1 dX6_init_10 rfl ?_
  refine z_iconst (v := 0) X dX6_init_11 (by decide) ?_
  refine z_max (z := 6) X mx_l mx_s mx_i mx_c (Nat.le_of_ble_eq_true rfl) (Nat.le_of_ble_eq_true rfl) (Nat.le_of_ble_eq_true rfl) (Nat.le_of_ble_eq_true rfl) (by decide) dX6_init_12 ?_
  refine z_newa (N := 6) (c2 := 1) (s2 := 6) X hA (by decide) (by decide) (Nat.le_of_ble_eq_true rfl) (Nat.le_of_ble_eq_true rfl) (Nat.le_of_ble_eq_true rfl) rfl rfl dX6_init_15 (fun q1 => ?_)
  refine z_putF (fk := 0) (ws2 := ([(a, .inr (6, [.ref q1, .null, .int 0]))] ++ [(q1, .inl (cI, 6, .inl (fun _ => 0)))])) X hin 0 cf_X6 rfl (by decide) fl_X6_19 rfl rfl rfl rfl rfl (Nat.le_of_ble_eq_true rfl) rfl dX6_init_17 ?_
  refine z_aload_n X 0 dX6_init_20 rfl ?_
  refine z_iload_n X 1 dX6_init_21 rfl ?_
  refine z_iconst (v := 0) X dX6_init_22 (by decide) ?_
  refine z_max (z := 6) X mx_l mx_s mx_i mx_c (Nat.le_of_ble_eq_true rfl) (Nat.le_of_ble_eq_true rfl) (Nat.le_of_ble_eq_true rfl) (Nat.le_of_ble_eq_true rfl) (by decide) dX6_init_23 ?_
  refine z_newa (N := 6) (c2 := 2) (s2 := 12) X hA (by decide) (by decide) (Nat.le_of_ble_eq_true rfl) (Nat.le_of_ble_eq_true rfl) (Nat.le_of_ble_eq_true rfl) rfl rfl dX6_init_26 (fun q2 => ?_)
  refine z_putF (fk := 1) (ws2 := (([(a, .inr (6, [.ref q1, .ref q2, .int 0]))] ++ [(q1, .inl (cI, 6, .inl (fun _ => 0)))]) ++ [(q2, .inl (cI, 6, .inl (fun _ => 0)))])) X hin 0 cf_X6 rfl (by decide) fl_X6_23 rfl rfl rfl rfl rfl (Nat.le_of_ble_eq_true rfl) rfl dX6_init_28 ?_
  obtain ⟨u, eu⟩ : ∃ u : Nat → Nat, u = fun n => ([q1, q2] : List Nat).getD n 0 := ⟨_, rfl⟩
  refine z_eq (ws2 := wX6 cI 6 a u) (by subst eu; rfl) ?_
  exact z_vret X hret dX6_init_31 u (fun _ h => h) (fun _ h => h)
set_option maxRecDepth 100000 in
set_option maxHeartbeats 8000000 in
theorem c_X2_init {D : va_G} {cI cS : ClassId} {l : Launch} (a : Nat) : CN D cI cS l yX2_init cX2_init 1 1 12 1 48 a [] (.inr (2, [.null, .int 0, .int 0])) (wX2 cI a) := by
  refine z_enter mf_X2_init rfl (Nat.le_of_ble_eq_true rfl) ?_
  intro p e s m below meth c X hret hin hA hO
  refine z_lv (lv2 := [(0, .ref a)]) rfl ?_
  refine z_aload_n X 0 dX2_init_0 rfl ?_
  refine z_obj X lk_X2_3 oi_i oi_c (Nat.le_of_ble_eq_true rfl) (Nat.le_of_ble_eq_true rfl) dX2_init_1 ?_
  refine z_aload_n X 0 dX2_init_4 rfl ?_
  refine z_bipush (v := 48) X dX2_init_5 (by decide) ?_
  refine z_newa (N := 48) (c2 := 1) (s2 := 48) X hA (by decide) (by decide) (Nat.le_of_ble_eq_true rfl) (Nat.le_of_ble_eq_true rfl) (Nat.le_of_ble_eq_true rfl) rfl rfl dX2_init_7 (fun q1 => ?_)
  refine z_putF (fk := 0) (ws2 := ([(a, .inr (2, [.ref q1, .int 0, .int 0]))] ++ [(q1, .inl (cI, 48, .inl (fun _ => 0)))])) X hin 0 cf_X2 rfl (by decide) fl_X2_9 rfl rfl rfl rfl rfl (Nat.le_of_ble_eq_true rfl) rfl dX2_init_9 ?_
  refine z_aload_n X 0 dX2_init_12 rfl ?_
  refine z_iconst (v := 0) X dX2_init_13 (by decide) ?_
  refine z_put (fk := 1) (ws2 := ([(a, .inr (2, [.ref q1, .int 0, .int 0]))] ++ [(q1, .inl (cI, 48, .inl (fun _ => 0)))])) X 0 cf_X2 rfl (by decide) fl_X2_15 rfl rfl rfl rfl (Nat.le_of_ble_eq_true rfl) rfl dX2_init_14 ?_
  refine z_aload_n X 0 dX2_init_17 rfl ?_
  refine z_iconst (v := 0) X dX2_init_18 (by decide) ?_
  refine z_put (fk := 2) (ws2 := ([(a, .inr (2, [.ref q1, .int 0, .int 0]))] ++ [(q1, .inl (cI, 48, .inl (fun _ => 0)))])) X 0 cf_X2 rfl (by decide) fl_X2_19 rfl rfl rfl rfl (Nat.le_of_ble_eq_true rfl) rfl dX2_init_19 ?_
  obtain ⟨u, eu⟩ : ∃ u : Nat → Nat, u = fun n => ([q1] : List Nat).getD n 0 := ⟨_, rfl⟩
  refine z_eq (ws2 := wX2 cI a u) (by subst eu; rfl) ?_
  exact z_vret X hret dX2_init_22 u (fun _ h => h) (fun _ h => h)
set_option maxRecDepth 100000 in
set_option maxHeartbeats 8000000 in
theorem c_X7_init {D : va_G} {cI cS : ClassId} {l : Launch} (a : Nat) : CN D cI cS l yX7_init cX7_init 1 3 52 12 118 a [] (.inr (7, [.null, .null, .null, .null])) (wX7 cI a) := by
  refine z_enter mf_X7_init rfl (Nat.le_of_ble_eq_true rfl) ?_
  intro p e s m below meth c X hret hin hA hO
  refine z_lv (lv2 := [(0, .ref a)]) rfl ?_
  refine z_aload_n X 0 dX7_init_0 rfl ?_
  refine z_obj X lk_X7_3 oi_i oi_c (Nat.le_of_ble_eq_true rfl) (Nat.le_of_ble_eq_true rfl) dX7_init_1 ?_
  refine z_aload_n X 0 dX7_init_4 rfl ?_
  refine z_new (c2 := 1) (s2 := 8) X hA cf_X4 cl_X7_9 in_X4 ini_X4 df_X4 (Nat.le_of_ble_eq_true rfl) (Nat.le_of_ble_eq_true rfl) rfl rfl dX7_init_5 (fun q1 => ?_)
  refine z_dup X dX7_init_8 rfl ?_
  refine z_ctorN (W1 := wX4 cI q1) X hA hO (c_X4_init (D := D) (cI := cI) (cS := cS) (l := l) _) mf_X4_init mi_X4_init rfl ln_X7_11 rfl ⟨(Nat.le_of_ble_eq_true rfl), (Nat.le_of_ble_eq_true rfl)⟩ ⟨(Nat.le_of_ble_eq_true rfl), (Nat.le_of_ble_eq_true rfl)⟩ rfl (Nat.le_of_ble_eq_true rfl) (c2 := 4) (s2 := 33) rfl rfl dX7_init_9 (fun u2 => ?_)
  refine z_putF (fk := 0) (ws2 := ([(a, .inr (7, [.ref q1, .null, .null, .null]))] ++ wX4 cI q1 u2)) X hin 0 cf_X7 rfl (by decide) fl_X7_12 rfl rfl rfl rfl rfl (Nat.le_of_ble_eq_true rfl) rfl dX7_init_12 ?_
  refine z_aload_n X 0 dX7_init_15 rfl ?_
  refine z_new (c2 := 5) (s2 := 36) X hA cf_X6 cl_X7_18 in_X6 ini_X6 df_X6 (Nat.le_of_ble_eq_true rfl) (Nat.le_of_ble_eq_true rfl) rfl rfl dX7_init_16 (fun q3 => ?_)
  refine z_dup X dX7_init_19 rfl ?_
  refine z_bipush (v := 8) X dX7_init_20 (by decide) ?_
  refine z_ctor (W1 := wX6 cI 8 q3) X hA hO (c_X6_8_init (D := D) (cI := cI) (cS := cS) (l := l) _) mf_X6_init mi_X6_init rfl lk_X7_20 rfl ⟨(Nat.le_of_ble_eq_true rfl), (Nat.le_of_ble_eq_true rfl)⟩ ⟨(Nat.le_of_ble_eq_true rfl), (Nat.le_of_ble_eq_true rfl)⟩ rfl (Nat.le_of_ble_eq_true rfl) (c2 := 7) (s2 := 52) rfl rfl dX7_init_22 (fun u4 => ?_)
  refine z_putF (fk := 1) (ws2 := (([(a, .inr (7, [.ref q1, .ref q3, .null, .null]))] ++ wX4 cI q1 u2) ++ wX6 cI 8 q3 u4)) X hin 0 cf_X7 rfl (by decide) fl_X7_23 rfl rfl rfl rfl rfl (Nat.le_of_ble_eq_true rfl) rfl dX7_init_25 ?_
  refine z_aload_n X 0 dX7_init_28 rfl ?_
  refine z_new (c2 := 8) (s2 := 55) X hA cf_X6 cl_X7_18 in_X6 ini_X6 df_X6 (Nat.le_of_ble_eq_true rfl) (Nat.le_of_ble_eq_true rfl) rfl rfl dX7_init_29 (fun q5 => ?_)
  refine z_dup X dX7_init_32 rfl ?_
  refine z_bipush (v := 6) X dX7_init_33 (by decide) ?_
  refine z_ctor (W1 := wX6 cI 6 q5) X hA hO (c_X6_6_init (D := D) (cI := cI) (cS := cS) (l := l) _) mf_X6_init mi_X6_init rfl lk_X7_20 rfl ⟨(Nat.le_of_ble_eq_true rfl), (Nat.le_of_ble_eq_true rfl)⟩ ⟨(Nat.le_of_ble_eq_true rfl), (Nat.le_of_ble_eq_true rfl)⟩ rfl (Nat.le_of_ble_eq_true rfl) (c2 := 10) (s2 := 67) rfl rfl dX7_init_35 (fun u6 => ?_)
  refine z_putF (fk := 2) (ws2 := ((([(a, .inr (7, [.ref q1, .ref q3, .ref q5, .null]))] ++ wX4 cI q1 u2) ++ wX6 cI 8 q3 u4) ++ wX6 cI 6 q5 u6)) X hin 0 cf_X7 rfl (by decide) fl_X7_27 rfl rfl rfl rfl rfl (Nat.le_of_ble_eq_true rfl) rfl dX7_init_38 ?_
  refine z_aload_n X 0 dX7_init_41 rfl ?_
  refine z_new (c2 := 11) (s2 := 70) X hA cf_X2 cl_X7_30 in_X2 ini_X2 df_X2 (Nat.le_of_ble_eq_true rfl) (Nat.le_of_ble_eq_true rfl) rfl rfl dX7_init_42 (fun q7 => ?_)
  refine z_dup X dX7_init_45 rfl ?_
  refine z_ctorN (W1 := wX2 cI q7) X hA hO (c_X2_init (D := D) (cI := cI) (cS := cS) (l := l) _) mf_X2_init mi_X2_init rfl ln_X7_32 rfl ⟨(Nat.le_of_ble_eq_true rfl), (Nat.le_of_ble_eq_true rfl)⟩ ⟨(Nat.le_of_ble_eq_true rfl), (Nat.le_of_ble_eq_true rfl)⟩ rfl (Nat.le_of_ble_eq_true rfl) (c2 := 12) (s2 := 118) rfl rfl dX7_init_46 (fun u8 => ?_)
  refine z_putF (fk := 3) (ws2 := (((([(a, .inr (7, [.ref q1, .ref q3, .ref q5, .ref q7]))] ++ wX4 cI q1 u2) ++ wX6 cI 8 q3 u4) ++ wX6 cI 6 q5 u6) ++ wX2 cI q7 u8)) X hin 0 cf_X7 rfl (by decide) fl_X7_33 rfl rfl rfl rfl rfl (Nat.le_of_ble_eq_true rfl) rfl dX7_init_49 ?_
  obtain ⟨u, eu⟩ : ∃ u : Nat → Nat, u = fun n => ([q1, u2 0, u2 1, u2 2, q3, u4 0, u4 1, q5, u6 0, u6 1, q7, u8 0] : List Nat).getD n 0 := ⟨_, rfl⟩
  refine z_eq (ws2 := wX7 cI a u) (by subst eu; rfl) ?_
  exact z_vret X hret dX7_init_52 u (fun _ h => h) (fun _ h => h)
set_option maxRecDepth 100000 in
set_option maxHeartbeats 8000000 in
theorem c_X8_init {D : va_G} {cI cS : ClassId} {l : Launch} (a : Nat) : CN D cI cS l yX8_init cX8_init 1 1 12 1 100 a [] (.inr (8, [.null, .int 0])) (wX8 cI a) := by
  refine z_enter mf_X8_init rfl (Nat.le_of_ble_eq_true rfl) ?_
  intro p e s m below meth c X hret hin hA hO
  refine z_lv (lv2 := [(0, .ref a)]) rfl ?_
  refine z_aload_n X 0 dX8_init_0 rfl ?_
  refine z_obj X lk_X8_3 oi_i oi_c (Nat.le_of_ble_eq_true rfl) (Nat.le_of_ble_eq_true rfl) dX8_init_1 ?_
  refine z_aload_n X 0 dX8_init_4 rfl ?_
  refine z_bipush (v := 100) X dX8_init_5 (by decide) ?_
  refine z_newa (N := 100) (c2 := 1) (s2 := 100) X hA (by decide) (by decide) (Nat.le_of_ble_eq_true rfl) (Nat.le_of_ble_eq_true rfl) (Nat.le_of_ble_eq_true rfl) rfl rfl dX8_init_7 (fun q1 => ?_)
  refine z_putF (fk := 0) (ws2 := ([(a, .inr (8, [.ref q1, .int 0]))] ++ [(q1, .inl (cI, 100, .inl (fun _ => 0)))])) X hin 0 cf_X8 rfl (by decide) fl_X8_9 rfl rfl rfl rfl rfl (Nat.le_of_ble_eq_true rfl) rfl dX8_init_9 ?_
  refine z_aload_n X 0 dX8_init_12 rfl ?_
  refine z_iconst (v := 0) X dX8_init_13 (by decide) ?_
  refine z_put (fk := 1) (ws2 := ([(a, .inr (8, [.ref q1, .int 0]))] ++ [(q1, .inl (cI, 100, .inl (fun _ => 0)))])) X 0 cf_X8 rfl (by decide) fl_X8_15 rfl rfl rfl rfl (Nat.le_of_ble_eq_true rfl) rfl dX8_init_14 ?_
  obtain ⟨u, eu⟩ : ∃ u : Nat → Nat, u = fun n => ([q1] : List Nat).getD n 0 := ⟨_, rfl⟩
  refine z_eq (ws2 := wX8 cI a u) (by subst eu; rfl) ?_
  exact z_vret X hret dX8_init_17 u (fun _ h => h) (fun _ h => h)
set_option maxRecDepth 100000 in
set_option maxHeartbeats 8000000 in
theorem c_X3_init {D : va_G} {cI cS : ClassId} {l : Launch} (a : Nat) : CN D cI cS l yX3_init cX3_init 1 2 35 3 19 a [] (.inr (3, [.null, .int 0])) (wX3 cI a) := by
  refine z_enter mf_X3_init rfl (Nat.le_of_ble_eq_true rfl) ?_
  intro p e s m below meth c X hret hin hA hO
  refine z_lv (lv2 := [(0, .ref a)]) rfl ?_
  refine z_aload_n X 0 dX3_init_0 rfl ?_
  refine z_obj X lk_X3_3 oi_i oi_c (Nat.le_of_ble_eq_true rfl) (Nat.le_of_ble_eq_true rfl) dX3_init_1 ?_
  refine z_aload_n X 0 dX3_init_4 rfl ?_
  refine z_new (c2 := 1) (s2 := 3) X hA cf_X6 cl_X3_9 in_X6 ini_X6 df_X6 (Nat.le_of_ble_eq_true rfl) (Nat.le_of_ble_eq_true rfl) rfl rfl dX3_init_5 (fun q1 => ?_)
  refine z_dup X dX3_init_8 rfl ?_
  refine z_bipush (v := 8) X dX3_init_9 (by decide) ?_
  refine z_ctor (W1 := wX6 cI 8 q1) X hA hO (c_X6_8_init (D := D) (cI := cI) (cS := cS) (l := l) _) mf_X6_init mi_X6_init rfl lk_X3_11 rfl ⟨(Nat.le_of_ble_eq_true rfl), (Nat.le_of_ble_eq_true rfl)⟩ ⟨(Nat.le_of_ble_eq_true rfl), (Nat.le_of_ble_eq_true rfl)⟩ rfl (Nat.le_of_ble_eq_true rfl) (c2 := 3) (s2 := 19) rfl rfl dX3_init_11 (fun u2 => ?_)
  refine z_putF (fk := 0) (ws2 := ([(a, .inr (3, [.ref q1, .int 0]))] ++ wX6 cI 8 q1 u2)) X hin 0 cf_X3 rfl (by decide) fl_X3_14 rfl rfl rfl rfl rfl (Nat.le_of_ble_eq_true rfl) rfl dX3_init_14 ?_
  refine z_aload_n X 0 dX3_init_17 rfl ?_
  refine z_iconst (v := -1) X dX3_init_18 (by decide) ?_
  refine z_put (fk := 1) (ws2 := ([(a, .inr (3, [.ref q1, .int (-1)]))] ++ wX6 cI 8 q1 u2)) X 0 cf_X3 rfl (by decide) fl_X3_20 rfl rfl rfl rfl (Nat.le_of_ble_eq_true rfl) rfl dX3_init_19 ?_
  obtain ⟨u, eu⟩ : ∃ u : Nat → Nat, u = fun n => ([q1, u2 0, u2 1] : List Nat).getD n 0 := ⟨_, rfl⟩
  refine z_eq (ws2 := wX3 cI a u) (by subst eu; rfl) ?_
  exact z_vret X hret dX3_init_22 u (fun _ h => h) (fun _ h => h)
set_option maxRecDepth 100000 in
set_option maxHeartbeats 8000000 in
theorem c_X1_init {D : va_G} {cI cS : ClassId} {l : Launch} (a : Nat) : CN D cI cS l yX1_init cX1_init 2 4 72 66 615 a [] (.inr (1, [.null, .int 0, .int 0])) (wX1 cI cS a) := by
  refine z_enter mf_X1_init rfl (Nat.le_of_ble_eq_true rfl) ?_
  intro p e s m below meth c X hret hin hA hO
  refine z_lv (lv2 := [(0, .ref a)]) rfl ?_
  refine z_aload_n X 0 dX1_init_0 rfl ?_
  refine z_obj X lk_X1_3 oi_i oi_c (Nat.le_of_ble_eq_true rfl) (Nat.le_of_ble_eq_true rfl) dX1_init_1 ?_
  refine z_aload_n X 0 dX1_init_4 rfl ?_
  refine z_iconst (v := 5) X dX1_init_5 (by decide) ?_
  refine z_newq (N := 5) (c2 := 1) (s2 := 5) X hA cl_X1_9 hO (by decide) (by decide) (Nat.le_of_ble_eq_true rfl) (Nat.le_of_ble_eq_true rfl) (Nat.le_of_ble_eq_true rfl) rfl rfl dX1_init_6 (fun q1 => ?_)
  refine z_putF (fk := 0) (ws2 := ([(a, .inr (1, [.ref q1, .int 0, .int 0]))] ++ [(q1, .inl (cS, 5, .inr (.inr (.inr (.inr (fun _ => none))))))])) X hin 0 cf_X1 rfl (by decide) fl_X1_11 rfl rfl rfl rfl rfl (Nat.le_of_ble_eq_true rfl) rfl dX1_init_9 ?_
  refine z_aload_n X 0 dX1_init_12 rfl ?_
  refine z_iconst (v := 0) X dX1_init_13 (by decide) ?_
  refine z_put (fk := 1) (ws2 := ([(a, .inr (1, [.ref q1, .int 0, .int 0]))] ++ [(q1, .inl (cS, 5, .inr (.inr (.inr (.inr (fun _ => none))))))])) X 0 cf_X1 rfl (by decide) fl_X1_17 rfl rfl rfl rfl (Nat.le_of_ble_eq_true rfl) rfl dX1_init_14 ?_
  refine z_aload_n X 0 dX1_init_17 rfl ?_
  refine z_iconst (v := 0) X dX1_init_18 (by decide) ?_
  refine z_put (fk := 2) (ws2 := ([(a, .inr (1, [.ref q1, .int 0, .int 0]))] ++ [(q1, .inl (cS, 5, .inr (.inr (.inr (.inr (fun _ => none))))))])) X 0 cf_X1 rfl (by decide) fl_X1_21 rfl rfl rfl rfl (Nat.le_of_ble_eq_true rfl) rfl dX1_init_19 ?_
  refine z_iconst (v := 0) X dX1_init_22 (by decide) ?_
  refine z_istore_n (lv' := [(1, .int 0), (0, .ref a)]) X dX1_init_23 (by decide) rfl ?_
  refine z_iload_n X 0 dX1_init_24 rfl ?_
  refine z_aload_n X 1 dX1_init_25 rfl ?_
  refine z_get (fk := 0) (v := .ref q1) X 0 cf_X1 rfl (by decide) fl_X1_11 rfl rfl dX1_init_26 ?_
  refine z_alen (x := 5) X 1 rfl rfl dX1_init_29 ?_
  refine z_icmp_ge (tgt := 52) X dX1_init_30 (by decide) (fun c => absurd c (by decide)) (fun _ => ?_)
  refine z_aload_n X 1 dX1_init_33 rfl ?_
  refine z_get (fk := 0) (v := .ref q1) X 0 cf_X1 rfl (by decide) fl_X1_11 rfl rfl dX1_init_34 ?_
  refine z_iload_n X 0 dX1_init_37 rfl ?_
  refine z_new (c2 := 2) (s2 := 9) X hA cf_X7 cl_X1_9 in_X7 ini_X7 df_X7 (Nat.le_of_ble_eq_true rfl) (Nat.le_of_ble_eq_true rfl) rfl rfl dX1_init_38 (fun q2 => ?_)
  refine z_dup X dX1_init_41 rfl ?_
  refine z_ctorN (W1 := wX7 cI q2) X hA hO (c_X7_init (D := D) (cI := cI) (cS := cS) (l := l) _) mf_X7_init mi_X7_init rfl ln_X1_24 rfl ⟨(Nat.le_of_ble_eq_true rfl), (Nat.le_of_ble_eq_true rfl)⟩ ⟨(Nat.le_of_ble_eq_true rfl), (Nat.le_of_ble_eq_true rfl)⟩ rfl (Nat.le_of_ble_eq_true rfl) (c2 := 14) (s2 := 127) rfl rfl dX1_init_42 (fun u3 => ?_)
  refine z_astq (ws2 := (([(a, .inr (1, [.ref q1, .int 0, .int 0]))] ++ [(q1, .inl (cS, 5, .inr (.inr (.inr (.inr (va_up (fun _ => none) 0 (some q2)))))))]) ++ wX7 cI q2 u3)) X 1 2 rfl rfl (vin_lit (by decide)) rfl dX1_init_45 ?_
  refine z_iinc (v := 1) (lv' := [(1, .int 1), (0, .ref a)]) X 0 dX1_init_46 rfl (by decide) (by decide) rfl ?_
  refine z_goto (tgt := 24) X dX1_init_49 (by decide) ?_
  refine z_iload_n X 0 dX1_init_24 rfl ?_
  refine z_aload_n X 1 dX1_init_25 rfl ?_
  refine z_get (fk := 0) (v := .ref q1) X 0 cf_X1 rfl (by decide) fl_X1_11 rfl rfl dX1_init_26 ?_
  refine z_alen (x := 5) X 1 rfl rfl dX1_init_29 ?_
  refine z_icmp_ge (tgt := 52) X dX1_init_30 (by decide) (fun c => absurd c (by decide)) (fun _ => ?_)
  refine z_aload_n X 1 dX1_init_33 rfl ?_
  refine z_get (fk := 0) (v := .ref q1) X 0 cf_X1 rfl (by decide) fl_X1_11 rfl rfl dX1_init_34 ?_
  refine z_iload_n X 0 dX1_init_37 rfl ?_
  refine z_new (c2 := 15) (s2 := 131) X hA cf_X7 cl_X1_9 in_X7 ini_X7 df_X7 (Nat.le_of_ble_eq_true rfl) (Nat.le_of_ble_eq_true rfl) rfl rfl dX1_init_38 (fun q4 => ?_)
  refine z_dup X dX1_init_41 rfl ?_
  refine z_ctorN (W1 := wX7 cI q4) X hA hO (c_X7_init (D := D) (cI := cI) (cS := cS) (l := l) _) mf_X7_init mi_X7_init rfl ln_X1_24 rfl ⟨(Nat.le_of_ble_eq_true rfl), (Nat.le_of_ble_eq_true rfl)⟩ ⟨(Nat.le_of_ble_eq_true rfl), (Nat.le_of_ble_eq_true rfl)⟩ rfl (Nat.le_of_ble_eq_true rfl) (c2 := 27) (s2 := 249) rfl rfl dX1_init_42 (fun u5 => ?_)
  refine z_astq (ws2 := ((([(a, .inr (1, [.ref q1, .int 0, .int 0]))] ++ [(q1, .inl (cS, 5, .inr (.inr (.inr (.inr (va_up (va_up (fun _ => none) 0 (some q2)) 1 (some q4)))))))]) ++ wX7 cI q2 u3) ++ wX7 cI q4 u5)) X 1 15 rfl rfl (vin_lit (by decide)) rfl dX1_init_45 ?_
  refine z_iinc (v := 2) (lv' := [(1, .int 2), (0, .ref a)]) X 0 dX1_init_46 rfl (by decide) (by decide) rfl ?_
  refine z_goto (tgt := 24) X dX1_init_49 (by decide) ?_
  refine z_iload_n X 0 dX1_init_24 rfl ?_
  refine z_aload_n X 1 dX1_init_25 rfl ?_
  refine z_get (fk := 0) (v := .ref q1) X 0 cf_X1 rfl (by decide) fl_X1_11 rfl rfl dX1_init_26 ?_
  refine z_alen (x := 5) X 1 rfl rfl dX1_init_29 ?_
  refine z_icmp_ge (tgt := 52) X dX1_init_30 (by decide) (fun c => absurd c (by decide)) (fun _ => ?_)
  refine z_aload_n X 1 dX1_init_33 rfl ?_
  refine z_get (fk := 0) (v := .ref q1) X 0 cf_X1 rfl (by decide) fl_X1_11 rfl rfl dX1_init_34 ?_
  refine z_iload_n X 0 dX1_init_37 rfl ?_
  refine z_new (c2 := 28) (s2 := 253) X hA cf_X7 cl_X1_9 in_X7 ini_X7 df_X7 (Nat.le_of_ble_eq_true rfl) (Nat.le_of_ble_eq_true rfl) rfl rfl dX1_init_38 (fun q6 => ?_)
  refine z_dup X dX1_init_41 rfl ?_
  refine z_ctorN (W1 := wX7 cI q6) X hA hO (c_X7_init (D := D) (cI := cI) (cS := cS) (l := l) _) mf_X7_init mi_X7_init rfl ln_X1_24 rfl ⟨(Nat.le_of_ble_eq_true rfl), (Nat.le_of_ble_eq_true rfl)⟩ ⟨(Nat.le_of_ble_eq_true rfl), (Nat.le_of_ble_eq_true rfl)⟩ rfl (Nat.le_of_ble_eq_true rfl) (c2 := 40) (s2 := 371) rfl rfl dX1_init_42 (fun u7 => ?_)
  refine z_astq (ws2 := (((([(a, .inr (1, [.ref q1, .int 0, .int 0]))] ++ [(q1, .inl (cS, 5, .inr (.inr (.inr (.inr (va_up (va_up (va_up (fun _ => none) 0 (some q2)) 1 (some q4)) 2 (some q6)))))))]) ++ wX7 cI q2 u3) ++ wX7 cI q4 u5) ++ wX7 cI q6 u7)) X 1 28 rfl rfl (vin_lit (by decide)) rfl dX1_init_45 ?_
  refine z_iinc (v := 3) (lv' := [(1, .int 3), (0, .ref a)]) X 0 dX1_init_46 rfl (by decide) (by decide) rfl ?_
  refine z_goto (tgt := 24) X dX1_init_49 (by decide) ?_
  refine z_iload_n X 0 dX1_init_24 rfl ?_
  refine z_aload_n X 1 dX1_init_25 rfl ?_
  refine z_get (fk := 0) (v := .ref q1) X 0 cf_X1 rfl (by decide) fl_X1_11 rfl rfl dX1_init_26 ?_
  refine z_alen (x := 5) X 1 rfl rfl dX1_init_29 ?_
  refine z_icmp_ge (tgt := 52) X dX1_init_30 (by decide) (fun c => absurd c (by decide)) (fun _ => ?_)
  refine z_aload_n X 1 dX1_init_33 rfl ?_
  refine z_get (fk := 0) (v := .ref q1) X 0 cf_X1 rfl (by decide) fl_X1_11 rfl rfl dX1_init_34 ?_
  refine z_iload_n X 0 dX1_init_37 rfl ?_
  refine z_new (c2 := 41) (s2 := 375) X hA cf_X7 cl_X1_9 in_X7 ini_X7 df_X7 (Nat.le_of_ble_eq_true rfl) (Nat.le_of_ble_eq_true rfl) rfl rfl dX1_init_38 (fun q8 => ?_)
  refine z_dup X dX1_init_41 rfl ?_
  refine z_ctorN (W1 := wX7 cI q8) X hA hO (c_X7_init (D := D) (cI := cI) (cS := cS) (l := l) _) mf_X7_init mi_X7_init rfl ln_X1_24 rfl ⟨(Nat.le_of_ble_eq_true rfl), (Nat.le_of_ble_eq_true rfl)⟩ ⟨(Nat.le_of_ble_eq_true rfl), (Nat.le_of_ble_eq_true rfl)⟩ rfl (Nat.le_of_ble_eq_true rfl) (c2 := 53) (s2 := 493) rfl rfl dX1_init_42 (fun u9 => ?_)
  refine z_astq (ws2 := ((((([(a, .inr (1, [.ref q1, .int 0, .int 0]))] ++ [(q1, .inl (cS, 5, .inr (.inr (.inr (.inr (va_up (va_up (va_up (va_up (fun _ => none) 0 (some q2)) 1 (some q4)) 2 (some q6)) 3 (some q8)))))))]) ++ wX7 cI q2 u3) ++ wX7 cI q4 u5) ++ wX7 cI q6 u7) ++ wX7 cI q8 u9)) X 1 41 rfl rfl (vin_lit (by decide)) rfl dX1_init_45 ?_
  refine z_iinc (v := 4) (lv' := [(1, .int 4), (0, .ref a)]) X 0 dX1_init_46 rfl (by decide) (by decide) rfl ?_
  refine z_goto (tgt := 24) X dX1_init_49 (by decide) ?_
  refine z_iload_n X 0 dX1_init_24 rfl ?_
  refine z_aload_n X 1 dX1_init_25 rfl ?_
  refine z_get (fk := 0) (v := .ref q1) X 0 cf_X1 rfl (by decide) fl_X1_11 rfl rfl dX1_init_26 ?_
  refine z_alen (x := 5) X 1 rfl rfl dX1_init_29 ?_
  refine z_icmp_ge (tgt := 52) X dX1_init_30 (by decide) (fun c => absurd c (by decide)) (fun _ => ?_)
  refine z_aload_n X 1 dX1_init_33 rfl ?_
  refine z_get (fk := 0) (v := .ref q1) X 0 cf_X1 rfl (by decide) fl_X1_11 rfl rfl dX1_init_34 ?_
  refine z_iload_n X 0 dX1_init_37 rfl ?_
  refine z_new (c2 := 54) (s2 := 497) X hA cf_X7 cl_X1_9 in_X7 ini_X7 df_X7 (Nat.le_of_ble_eq_true rfl) (Nat.le_of_ble_eq_true rfl) rfl rfl dX1_init_38 (fun q10 => ?_)
  refine z_dup X dX1_init_41 rfl ?_
  refine z_ctorN (W1 := wX7 cI q10) X hA hO (c_X7_init (D := D) (cI := cI) (cS := cS) (l := l) _) mf_X7_init mi_X7_init rfl ln_X1_24 rfl ⟨(Nat.le_of_ble_eq_true rfl), (Nat.le_of_ble_eq_true rfl)⟩ ⟨(Nat.le_of_ble_eq_true rfl), (Nat.le_of_ble_eq_true rfl)⟩ rfl (Nat.le_of_ble_eq_true rfl) (c2 := 66) (s2 := 615) rfl rfl dX1_init_42 (fun u11 => ?_)
  refine z_astq (ws2 := (((((([(a, .inr (1, [.ref q1, .int 0, .int 0]))] ++ [(q1, .inl (cS, 5, .inr (.inr (.inr (.inr (va_up (va_up (va_up (va_up (va_up (fun _ => none) 0 (some q2)) 1 (some q4)) 2 (some q6)) 3 (some q8)) 4 (some q10)))))))]) ++ wX7 cI q2 u3) ++ wX7 cI q4 u5) ++ wX7 cI q6 u7) ++ wX7 cI q8 u9) ++ wX7 cI q10 u11)) X 1 54 rfl rfl (vin_lit (by decide)) rfl dX1_init_45 ?_
  refine z_iinc (v := 5) (lv' := [(1, .int 5), (0, .ref a)]) X 0 dX1_init_46 rfl (by decide) (by decide) rfl ?_
  refine z_goto (tgt := 24) X dX1_init_49 (by decide) ?_
  refine z_iload_n X 0 dX1_init_24 rfl ?_
  refine z_aload_n X 1 dX1_init_25 rfl ?_
  refine z_get (fk := 0) (v := .ref q1) X 0 cf_X1 rfl (by decide) fl_X1_11 rfl rfl dX1_init_26 ?_
  refine z_alen (x := 5) X 1 rfl rfl dX1_init_29 ?_
  refine z_icmp_ge (tgt := 52) X dX1_init_30 (by decide) (fun _ => ?_) (fun c => absurd (by decide) c)
  obtain ⟨u, eu⟩ : ∃ u : Nat → Nat, u = fun n => ([q1, q2, u3 0, u3 1, u3 2, u3 3, u3 4, u3 5, u3 6, u3 7, u3 8, u3 9, u3 10, u3 11, q4, u5 0, u5 1, u5 2, u5 3, u5 4, u5 5, u5 6, u5 7, u5 8, u5 9, u5 10, u5 11, q6, u7 0, u7 1, u7 2, u7 3, u7 4, u7 5, u7 6, u7 7, u7 8, u7 9, u7 10, u7 11, q8, u9 0, u9 1, u9 2, u9 3, u9 4, u9 5, u9 6, u9 7, u9 8, u9 9, u9 10, u9 11, q10, u11 0, u11 1, u11 2, u11 3, u11 4, u11 5, u11 6, u11 7, u11 8, u11 9, u11 10, u11 11] : List Nat).getD n 0 := ⟨_, rfl⟩
  refine z_eq (ws2 := wX1 cI cS a u) (by subst eu; rfl) ?_
  exact z_vret X hret dX1_init_52 u (fun _ h => h) (fun _ h => h)
