theorem z_astore_n {D : va_G} {cI cS : ClassId} {A : Nat → Prop} {p : Program} {l : Launch} {e : Env} {R : Room} {s : State} {m : MethodId} {args : Array Value} {below : List Frame} {meth : Method} {c : Code} {cells slots : Nat} {Q : State → Prop} {nL : Nat} {own : String} {cc : ByteArray} {ws : va_W} {pc : Nat} {lv : List (Nat × Value)} {st : List Value} (X : CX (E0 D cI cS) A p s m meth c own cc nL) {i : Fin 4} {x : Nat} {lv' : List (Nat × Value)} (hd : decode cc pc = .ok (.astore_n i, 1)) (hn : (i : Nat) < nL) (hv : ((i : Nat), Value.ref x) :: lv.filter (fun q => !(q.1 == (i : Nat)) && !(q.1 + 1 == (i : Nat) && q.2.category == 2)) = lv') (k : VC D A p l e R s m args below meth c cells slots Q nL ws (pc + 1) lv' (st)) : VC D A p l e R s m args below meth c cells slots Q nL ws (pc) lv (.ref x :: st) := fun H locs ls hP hD hS hl => lv_astore_n X.1 X.2.1 hd rfl hl hn hv (fun ls hl => k H locs ls hP hD hS hl)
theorem T9_K : ∀ g, g < 36 → T9 g = ar_T g := by decide +kernel
set_option maxRecDepth 100000 in
set_option maxHeartbeats 8000000 in
theorem law_begin {G : Geo} {p : Program} {e : Env} {s : State} {m : MethodId} {below : List Frame} {meth : Method} {c : Code} (l : Launch) {b L : Nat} {xs : Nat → Int32} (hL : L ≤ 260) (X : CX G (fun q => s.heap.size ≤ q) p s m meth c RL cL_law 10) (hret : meth.sig.returnType = ret) (hK : KT G) (hX : va_X b L xs s s.heap) (hbl : b < s.heap.size) {h : Hp} (hI : INV 0 h) (hp7 : h 2 7 = 0) (hp0 : (h 2 0).toInt = 0) (hp1 : h 2 1 = 0) : VV G (fun q => s.heap.size ≤ q) p l e room_1 s m #[Value.ref b] below meth c 91 906 (lw_Z below #[Value.ref b] s) 10 h 8 [(1, .ref (gA G 0 0)), (0, .ref b)] [] := by
  have hbA : ¬ (fun q : Nat => s.heap.size ≤ q) b := Nat.not_le.mpr hbl
  have hG : GOK G := X.2.2.2.2.2.1
  have hT0 : gT G 0 = 0 := hK 0 (by decide)
  refine q_aload_n X 0 dL_law_8 rfl ?_
  refine q_bipush (v := 60) X dL_law_9 (by decide) ?_
  refine q_aload_n X 1 dL_law_11 rfl ?_
  refine q_iconst (v := 0) X dL_law_12 (by decide) ?_
  refine q_callC (rest := [.int 60, .ref (gA G 0 0)]) X (by omega) hX hbl hbA (k := 0) (by decide) lk_L_79 ⟨(Nat.le_of_ble_eq_true rfl), (Nat.le_of_ble_eq_true rfl)⟩ ⟨(Nat.le_of_ble_eq_true rfl), (Nat.le_of_ble_eq_true rfl)⟩ rfl (Nat.le_of_ble_eq_true rfl) dL_law_13 ?_
  obtain ⟨y0, ey0⟩ : ∃ z, S_L_cell L xs 0 = z := ⟨_, rfl⟩
  rw [ey0]
  refine q_bipush (v := 41) X dL_law_16 (by decide) ?_
  refine q_callS (h1 := h) (rest := [.int 60, .ref (gA G 0 0)]) (As := [.int y0, .int 41]) X (c_L_low (l := l) hG (h := h) y0 41 (by decide)) mf_L_low ms_L_low lk_L_31 rfl ⟨(Nat.le_of_ble_eq_true rfl), (Nat.le_of_ble_eq_true rfl)⟩ ⟨(Nat.le_of_ble_eq_true rfl), (Nat.le_of_ble_eq_true rfl)⟩ rfl (Nat.le_of_ble_eq_true rfl) dL_law_18 (st2 := [.int (S_L_low y0 41), .int 60, .ref (gA G 0 0)]) rfl ?_
  have w1b := low_bd (a := y0) (b := 41) (by decide)
  generalize S_L_low y0 41 = w1 at w1b ⊢
  have p1 : ¬ S_X9_inRange (60 + w1) 0 100 = 0 := by
    have z : (41 : Int32).toInt = 41 := rfl
    have e1 : (60 + w1).toInt = 60 + w1.toInt := ta (a := 60) (by show -2147483648 ≤ 60 + w1.toInt; omega) (by show 60 + w1.toInt < 2147483648; omega)
    rw [z] at w1b
    refine inR_ok ?_ ?_
    · rw [e1]; show 0 ≤ 60 + w1.toInt; omega
    · rw [e1]; show 60 + w1.toInt ≤ 100; omega
  refine q_iadd X dL_law_21 ?_
  generalize 60 + w1 = po at p1 ⊢
  have q1 := eq_setPower h p1
  rw [hp7] at q1
  have W1 : W4 (va_up (h 2) 7 po) (h 3) (h 4) (h 5) := ⟨WT_up (k := 7) hI.1.1 (by decide) (inR p1).1 (inR p1).2, hI.1.2⟩
  have I1 := (INV_step (by omega) hI W1).1
  have f1 : (W5 (S_X1_remember h) (va_up (h 2) 7 po) (h 3) (h 4) (h 5) 2 0).toInt = 0 ∧ W5 (S_X1_remember h) (va_up (h 2) 7 po) (h 3) (h 4) (h 5) 2 1 = 0 := by
    rw [(W5_2 _ _ _ _ _).1, va_up_ne _ _ (show (0 : Nat) ≠ 7 by decide), va_up_ne _ _ (show (1 : Nat) ≠ 7 by decide)]
    exact ⟨hp0, hp1⟩
  obtain ⟨h1, e1⟩ : ∃ z, W5 (S_X1_remember h) (va_up (h 2) 7 po) (h 3) (h 4) (h 5) = z := ⟨_, rfl⟩
  rw [e1] at q1 I1 f1
  refine q_callV (h1 := h1) (rest := []) (As := [.int po]) X (by have c0 := c_X9_setPower (l := l) hG (h := h) po hK; rw [q1] at c0; exact c0) mf_X9_setPower mv_X9_setPower cf_X9 rfl (ac_0_0 hT0) lk_L_39 rfl ⟨(Nat.le_of_ble_eq_true rfl), (Nat.le_of_ble_eq_true rfl)⟩ ⟨(Nat.le_of_ble_eq_true rfl), (Nat.le_of_ble_eq_true rfl)⟩ rfl (Nat.le_of_ble_eq_true rfl) dL_law_22 (st2 := [.int 0]) rfl ?_
  refine q_if_ne (tgt := 63) X dL_law_25 (by decide) (fun q => absurd rfl q) (fun _ => ?_)
  have p2 : ¬ S_X9_inRange 200 1 200 = 0 := by decide
  have r2 : h1 2 0 + 200 ≤ 10000 := by
    have z0 : h1 2 0 = 0 := Int32.toInt_inj.mp f1.1
    rw [z0]
    decide
  have q2 := eq_run h1 p2 r2
  obtain ⟨w2, w2p⟩ := RR_bd I1.1 p2 r2
  have I2 := (INV_step (ρ := RR h1 200) (by omega) I1 ⟨w2, I1.1.2⟩).1
  have v2b : -1000 ≤ (RR h1 200 4).toInt := (w2.1 4 (by decide)).1
  have f2 : W5 (S_X1_remember h1) (RR h1 200) (h1 3) (h1 4) (h1 5) 2 1 = 0 := by rw [(W5_2 _ _ _ _ _).1, w2p]; exact f1.2
  obtain ⟨v2, ev2⟩ : ∃ z, RR h1 200 4 = z := ⟨_, rfl⟩
  obtain ⟨h2, e2⟩ : ∃ z, W5 (S_X1_remember h1) (RR h1 200) (h1 3) (h1 4) (h1 5) = z := ⟨_, rfl⟩
  rw [ev2, e2] at q2
  rw [ev2] at v2b
  rw [e2] at I2 f2
  refine q_aload_n X 0 dL_law_28 rfl ?_
  refine q_sipush (v := 200) X dL_law_29 (by decide) ?_
  refine q_callV (h1 := h2) (rest := []) (As := [.int 200]) X (by have c0 := c_X9_run (l := l) hG (h := h1) 200 hK; rw [q2] at c0; exact c0) mf_X9_run mv_X9_run cf_X9 rfl (ac_0_0 hT0) lk_L_75 rfl ⟨(Nat.le_of_ble_eq_true rfl), (Nat.le_of_ble_eq_true rfl)⟩ ⟨(Nat.le_of_ble_eq_true rfl), (Nat.le_of_ble_eq_true rfl)⟩ rfl (Nat.le_of_ble_eq_true rfl) dL_law_32 (st2 := [.int v2]) rfl ?_
  refine q_ldc X kc_L_67 dL_law_35 ?_
  refine q_icmp_lt (tgt := 63) X dL_law_37 (by decide) (fun q => by have := Int32.lt_iff_toInt_lt.mp q; have z5 : (-50000 : Int32).toInt = -50000 := rfl; omega) (fun _ => ?_)
  refine q_aload_n X 0 dL_law_40 rfl ?_
  refine q_bipush (v := 100) X dL_law_41 (by decide) ?_
  refine q_aload_n X 1 dL_law_43 rfl ?_
  refine q_iconst (v := 1) X dL_law_44 (by decide) ?_
  refine q_callC (rest := [.int 100, .ref (gA G 0 0)]) X (by omega) hX hbl hbA (k := 1) (by decide) lk_L_79 ⟨(Nat.le_of_ble_eq_true rfl), (Nat.le_of_ble_eq_true rfl)⟩ ⟨(Nat.le_of_ble_eq_true rfl), (Nat.le_of_ble_eq_true rfl)⟩ rfl (Nat.le_of_ble_eq_true rfl) dL_law_45 ?_
  obtain ⟨y1, ey1⟩ : ∃ z, S_L_cell L xs 1 = z := ⟨_, rfl⟩
  rw [ey1]
  refine q_sipush (v := 901) X dL_law_48 (by decide) ?_
  refine q_callS (h1 := h2) (rest := [.int 100, .ref (gA G 0 0)]) (As := [.int y1, .int 901]) X (c_L_low (l := l) hG (h := h2) y1 901 (by decide)) mf_L_low ms_L_low lk_L_31 rfl ⟨(Nat.le_of_ble_eq_true rfl), (Nat.le_of_ble_eq_true rfl)⟩ ⟨(Nat.le_of_ble_eq_true rfl), (Nat.le_of_ble_eq_true rfl)⟩ rfl (Nat.le_of_ble_eq_true rfl) dL_law_51 (st2 := [.int (S_L_low y1 901), .int 100, .ref (gA G 0 0)]) rfl ?_
  have w3b := low_bd (a := y1) (b := 901) (by decide)
  generalize S_L_low y1 901 = w3 at w3b ⊢
  have p3 : ¬ S_X9_inRange (100 + w3) 100 1000 = 0 := by
    have z : (901 : Int32).toInt = 901 := rfl
    have e1 : (100 + w3).toInt = 100 + w3.toInt := ta (a := 100) (by show -2147483648 ≤ 100 + w3.toInt; omega) (by show 100 + w3.toInt < 2147483648; omega)
    rw [z] at w3b
    refine inR_ok ?_ ?_
    · rw [e1]; show 100 ≤ 100 + w3.toInt; omega
    · rw [e1]; show 100 + w3.toInt ≤ 1000; omega
  refine q_iadd X dL_law_54 ?_
  generalize 100 + w3 = ma at p3 ⊢
  have q3 := eq_charge h2 p3 f2
  have w3 := WT_batch I2.1.1 (ma := ma) ⟨Int.le_trans (by decide) (inR p3).1, (inR p3).2⟩
  have I3 := (INV_step (ρ := S_X4_startBatch (h2 2) ma) (by omega) I2 ⟨w3, I2.1.2⟩).1
  have v3b : -1000 ≤ (S_X4_startBatch (h2 2) ma 2).toInt := (w3.1 2 (by decide)).1
  obtain ⟨v3, ev3⟩ : ∃ z, S_X4_startBatch (h2 2) ma 2 = z := ⟨_, rfl⟩
  obtain ⟨h3, e3⟩ : ∃ z, W5 (S_X1_remember h2) (S_X4_startBatch (h2 2) ma) (h2 3) (h2 4) (h2 5) = z := ⟨_, rfl⟩
  rw [ev3, e3] at q3
  rw [ev3] at v3b
  rw [e3] at I3
  refine q_callV (h1 := h3) (rest := []) (As := [.int ma]) X (by have c0 := c_X9_charge (l := l) hG (h := h2) ma hK; rw [q3] at c0; exact c0) mf_X9_charge mv_X9_charge cf_X9 rfl (ac_0_0 hT0) lk_L_64 rfl ⟨(Nat.le_of_ble_eq_true rfl), (Nat.le_of_ble_eq_true rfl)⟩ ⟨(Nat.le_of_ble_eq_true rfl), (Nat.le_of_ble_eq_true rfl)⟩ rfl (Nat.le_of_ble_eq_true rfl) dL_law_55 (st2 := [.int v3]) rfl ?_
  refine q_ldc X kc_L_67 dL_law_58 ?_
  refine q_icmp_ge (tgt := 65) X dL_law_60 (by decide) (fun _ => ?_) (fun q => absurd (show (-50000 : Int32) ≤ v3 from Int32.le_iff_toInt_le.mpr (by have z5 : (-50000 : Int32).toInt = -50000 := rfl; omega)) q)
  refine q_iconst (v := 0) X dL_law_65 (by decide) ?_
  refine q_istore_n (lv' := [(2, .int 0), (1, .ref (gA G 0 0)), (0, .ref b)]) X dL_law_66 (by decide) rfl ?_
  exact law_loop l hL X hret hK hX hbl 18 3 0 0 h3 rfl (by decide) (by decide) (by decide) I3
