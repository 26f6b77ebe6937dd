theorem lgc_self (x : Int64) : lg_cmp x x = 0 := lgc_eq.mpr rfl
theorem VV_ag {G : Geo} {A : Nat → Prop} {p : Program} {l : Launch} {e : Env} {R : Room} {s : State} {m : MethodId} {args : Array Value} {below : List Frame} {meth : Method} {c : Code} {cells slots : Nat} {Q : State → Prop} {nL : Nat} {h h' : Hp} {pc : Nat} {lv : List (Nat × Value)} {st : List Value} (hK : KT G) (ha : AG4 (h 2) (h 3) (h 4) (h 5) (h' 2) (h' 3) (h' 4) (h' 5)) (ho : ∀ g, g < 2 ∨ 5 < g → h' g = h g) (k : VV G A p l e R s m args below meth c cells slots Q nL h' pc lv st) : VV G A p l e R s m args below meth c cells slots Q nL h pc lv st := fun H locs ls hP hS hl => k H locs ls (wl_agree hK ha ho hP) hS hl
theorem SM_55 {H H' : Hp} {ρ π μ ν : Nat → Int32} : SM (W5 H ρ π μ ν) (W5 H' ρ π μ ν) := ⟨rfl, rfl, rfl, rfl⟩
theorem no_setPower (h : Hp) : S_X9_setPower h 101 = (-100001, h) := by
  unfold S_X9_setPower
  rw [if_pos (by decide)]
theorem no_setFan (h : Hp) : S_X9_setFan h 0 = (-100001, h) := by
  unfold S_X9_setFan
  rw [if_pos (by decide)]
theorem no_setRow (h : Hp) : S_X9_setRow h 3001 1 = (-100001, h) := by
  unfold S_X9_setRow
  rw [if_pos (by decide)]
theorem no_charge (h : Hp) : S_X9_charge h 99 = (-100001, h) := by
  unfold S_X9_charge
  rw [if_pos (by decide)]
theorem no_run (h : Hp) : S_X9_run h 0 = (-100001, h) := by
  unfold S_X9_run
  rw [if_pos (by decide)]
theorem no_target (h : Hp) : S_X9_target h 1001 = -100001 := by
  unfold S_X9_target
  rw [if_pos (by decide)]
theorem no_append (h : Hp) : S_X9_append h 0 = (-100001, h) := by
  unfold S_X9_append
  rw [if_pos (by decide)]
set_option maxRecDepth 100000 in
set_option maxHeartbeats 8000000 in
theorem law_end {G : Geo} {p : Program} {e : Env} {s : State} {m : MethodId} {below : List Frame} {meth : Method} {c : Code} (l : Launch) {b L : Nat} {xs : Nat → Int32} (hL : L ≤ 260) (X : CX G (fun q => s.heap.size ≤ q) p s m meth c RL cL_law 10) (hret : meth.sig.returnType = ret) (hK : KT G) (hX : va_X b L xs s s.heap) (hbl : b < s.heap.size) {N : Nat} (hN : N ≤ 100000) {h : Hp} (hI : INV N h) : VV G (fun q => s.heap.size ≤ q) p l e room_1 s m #[Value.ref b] below meth c 91 906 (lw_Z below #[Value.ref b] s) 10 h 303 [(1, .ref (gA G 0 0)), (0, .ref b)] [] := by
  have hbA : ¬ (fun q : Nat => s.heap.size ≤ q) b := Nat.not_le.mpr hbl
  have hG : GOK G := X.2.2.2.2.2.1
  have hT0 : gT G 0 = 0 := hK 0 (by decide)
  refine q_aload_n X 0 dL_law_303 rfl ?_
  obtain ⟨D, eD⟩ : ∃ D, S_L_digest h = D := ⟨_, rfl⟩
  refine q_callS (h1 := h) (rest := []) (As := [.ref (gA G 0 0)]) X (by have c0 := c_L_digest (l := l) hG (h := h) hK; rw [eD] at c0; exact c0) mf_L_digest ms_L_digest lk_L_83 rfl ⟨(Nat.le_of_ble_eq_true rfl), (Nat.le_of_ble_eq_true rfl)⟩ ⟨(Nat.le_of_ble_eq_true rfl), (Nat.le_of_ble_eq_true rfl)⟩ rfl (Nat.le_of_ble_eq_true rfl) dL_law_304 (st2 := [.long D]) rfl ?_
  refine q_lstore_n (lv' := [(2, .long D), (1, .ref (gA G 0 0)), (0, .ref b)]) X dL_law_307 (by decide) rfl ?_
  refine q_aload_n X 1 dL_law_308 rfl ?_
  refine q_bipush (v := 101) X dL_law_309 (by decide) ?_
  refine q_callV (h1 := h) (rest := []) (As := [.int 101]) X (by have c0 := c_X9_setPower (l := l) hG (h := h) (101) hK; rw [no_setPower] at c0; exact c0) mf_X9_setPower mv_X9_setPower cf_X9 rfl (ac_0_0 hT0) lk_L_39 rfl ⟨(Nat.le_of_ble_eq_true rfl), (Nat.le_of_ble_eq_true rfl)⟩ ⟨(Nat.le_of_ble_eq_true rfl), (Nat.le_of_ble_eq_true rfl)⟩ rfl (Nat.le_of_ble_eq_true rfl) dL_law_311 (st2 := [.int (-100001)]) rfl ?_
  refine q_ldc X kc_L_108 dL_law_314 ?_
  refine q_icmp_ne (tgt := 384) X dL_law_316 (by decide) (fun q => absurd q (fun z => z rfl)) (fun _ => ?_)
  refine q_aload_n X 1 dL_law_319 rfl ?_
  refine q_iconst (v := 0) X dL_law_320 (by decide) ?_
  refine q_callV (h1 := h) (rest := []) (As := [.int 0]) X (by have c0 := c_X9_setFan (l := l) hG (h := h) (0) hK; rw [no_setFan] at c0; exact c0) mf_X9_setFan mv_X9_setFan cf_X9 rfl (ac_0_0 hT0) lk_L_52 rfl ⟨(Nat.le_of_ble_eq_true rfl), (Nat.le_of_ble_eq_true rfl)⟩ ⟨(Nat.le_of_ble_eq_true rfl), (Nat.le_of_ble_eq_true rfl)⟩ rfl (Nat.le_of_ble_eq_true rfl) dL_law_321 (st2 := [.int (-100001)]) rfl ?_
  refine q_ldc X kc_L_108 dL_law_324 ?_
  refine q_icmp_ne (tgt := 384) X dL_law_326 (by decide) (fun q => absurd q (fun z => z rfl)) (fun _ => ?_)
  refine q_aload_n X 1 dL_law_329 rfl ?_
  refine q_sipush (v := 3001) X dL_law_330 (by decide) ?_
  refine q_iconst (v := 1) X dL_law_333 (by decide) ?_
  refine q_callV (h1 := h) (rest := []) (As := [.int 3001, .int 1]) X (by have c0 := c_X9_setRow (l := l) hG (h := h) (3001) (1) hK; rw [no_setRow] at c0; exact c0) mf_X9_setRow mv_X9_setRow cf_X9 rfl (ac_0_0 hT0) lk_L_61 rfl ⟨(Nat.le_of_ble_eq_true rfl), (Nat.le_of_ble_eq_true rfl)⟩ ⟨(Nat.le_of_ble_eq_true rfl), (Nat.le_of_ble_eq_true rfl)⟩ rfl (Nat.le_of_ble_eq_true rfl) dL_law_334 (st2 := [.int (-100001)]) rfl ?_
  refine q_ldc X kc_L_108 dL_law_337 ?_
  refine q_icmp_ne (tgt := 384) X dL_law_339 (by decide) (fun q => absurd q (fun z => z rfl)) (fun _ => ?_)
  refine q_aload_n X 1 dL_law_342 rfl ?_
  refine q_bipush (v := 99) X dL_law_343 (by decide) ?_
  refine q_callV (h1 := h) (rest := []) (As := [.int 99]) X (by have c0 := c_X9_charge (l := l) hG (h := h) (99) hK; rw [no_charge] at c0; exact c0) mf_X9_charge mv_X9_charge cf_X9 rfl (ac_0_0 hT0) lk_L_64 rfl ⟨(Nat.le_of_ble_eq_true rfl), (Nat.le_of_ble_eq_true rfl)⟩ ⟨(Nat.le_of_ble_eq_true rfl), (Nat.le_of_ble_eq_true rfl)⟩ rfl (Nat.le_of_ble_eq_true rfl) dL_law_345 (st2 := [.int (-100001)]) rfl ?_
  refine q_ldc X kc_L_108 dL_law_348 ?_
  refine q_icmp_ne (tgt := 384) X dL_law_350 (by decide) (fun q => absurd q (fun z => z rfl)) (fun _ => ?_)
  refine q_aload_n X 1 dL_law_353 rfl ?_
  refine q_iconst (v := 0) X dL_law_354 (by decide) ?_
  refine q_callV (h1 := h) (rest := []) (As := [.int 0]) X (by have c0 := c_X9_run (l := l) hG (h := h) (0) hK; rw [no_run] at c0; exact c0) mf_X9_run mv_X9_run cf_X9 rfl (ac_0_0 hT0) lk_L_75 rfl ⟨(Nat.le_of_ble_eq_true rfl), (Nat.le_of_ble_eq_true rfl)⟩ ⟨(Nat.le_of_ble_eq_true rfl), (Nat.le_of_ble_eq_true rfl)⟩ rfl (Nat.le_of_ble_eq_true rfl) dL_law_355 (st2 := [.int (-100001)]) rfl ?_
  refine q_ldc X kc_L_108 dL_law_358 ?_
  refine q_icmp_ne (tgt := 384) X dL_law_360 (by decide) (fun q => absurd q (fun z => z rfl)) (fun _ => ?_)
  refine q_aload_n X 1 dL_law_363 rfl ?_
  refine q_sipush (v := 1001) X dL_law_364 (by decide) ?_
  refine q_callV (h1 := h) (rest := []) (As := [.int 1001]) X (by have c0 := c_X9_target (l := l) hG (h := h) (1001) hK; rw [no_target] at c0; exact c0) mf_X9_target mv_X9_target cf_X9 rfl (ac_0_0 hT0) lk_L_25 rfl ⟨(Nat.le_of_ble_eq_true rfl), (Nat.le_of_ble_eq_true rfl)⟩ ⟨(Nat.le_of_ble_eq_true rfl), (Nat.le_of_ble_eq_true rfl)⟩ rfl (Nat.le_of_ble_eq_true rfl) dL_law_367 (st2 := [.int (-100001)]) rfl ?_
  refine q_ldc X kc_L_108 dL_law_370 ?_
  refine q_icmp_ne (tgt := 384) X dL_law_372 (by decide) (fun q => absurd q (fun z => z rfl)) (fun _ => ?_)
  refine q_aload_n X 1 dL_law_375 rfl ?_
  refine q_callS (h1 := h) (rest := []) (As := [.ref (gA G 0 0)]) X (by have c0 := c_L_digest (l := l) hG (h := h) hK; rw [eD] at c0; exact c0) mf_L_digest ms_L_digest lk_L_83 rfl ⟨(Nat.le_of_ble_eq_true rfl), (Nat.le_of_ble_eq_true rfl)⟩ ⟨(Nat.le_of_ble_eq_true rfl), (Nat.le_of_ble_eq_true rfl)⟩ rfl (Nat.le_of_ble_eq_true rfl) dL_law_376 (st2 := [.long D]) rfl ?_
  refine q_lload_n X 0 dL_law_379 rfl ?_
  refine q_lcmp X dL_law_380 ?_
  rw [lgc_self]
  refine q_if_eq (tgt := 386) X dL_law_381 (by decide) (fun _ => ?_) (fun q => absurd rfl q)
  obtain ⟨ra, rb, rp, rt, el, ep, et⟩ := load_0 hI.2.2
  obtain ⟨h5, e5⟩ : ∃ h5, va_up (va_up (S_X1_remember (va_up (va_up h 8 ra) 9 rb)) 3 rp) 7 rt = h5 := ⟨_, rfl⟩
  rw [e5] at el
  have w0 : WH (va_up (va_up h 8 ra) 9 rb) := hI.1
  have i0 : HI N (va_up (va_up h 8 ra) 9 rb) := HI_congr (fun g hg => (va_up_ne _ _ (by omega)).trans (va_up_ne _ _ (by omega))) hI.2.1
  obtain ⟨i1, t1⟩ := rem_ok hN w0 i0
  have f5 : ∀ g, 10 ≤ g → h5 g = S_X1_remember (va_up (va_up h 8 ra) 9 rb) g := fun g hg => by rw [← e5, va_up_ne _ _ (by omega), va_up_ne _ _ (by omega)]
  have t5 : TOP h5 (h 2) (h 3) (h 4) (h 5) := TOP_congr f5 t1
  obtain ⟨u0, u1, u2⟩ := INV_undo (HI_congr f5 i1) (by rw [← e5, va_up_self]; exact et) t5 hI.1
  have c8 : S_X9_count h5 8 = 0 := by rw [count_8, ← e5, va_up_ne _ _ (by decide), va_up_self]; exact ep
  refine q_aload_n X 1 dL_law_386 rfl ?_
  refine q_callV (h1 := h5) (rest := []) (As := []) X (by have c0 := c_X9_load (l := l) hG (h := h) hK; rw [el] at c0; exact c0) mf_X9_load mv_X9_load cf_X9 rfl (ac_0_0 hT0) lk_L_109 rfl ⟨(Nat.le_of_ble_eq_true rfl), (Nat.le_of_ble_eq_true rfl)⟩ ⟨(Nat.le_of_ble_eq_true rfl), (Nat.le_of_ble_eq_true rfl)⟩ rfl (Nat.le_of_ble_eq_true rfl) dL_law_387 (st2 := [.int 0]) rfl ?_
  refine q_if_ne (tgt := 443) X dL_law_390 (by decide) (fun q => absurd q (fun z => z rfl)) (fun _ => ?_)
  refine q_aload_n X 1 dL_law_393 rfl ?_
  refine q_bipush (v := 8) X dL_law_394 (by decide) ?_
  refine q_callV (h1 := h5) (rest := []) (As := [.int 8]) X (by have c0 := c_X9_count (l := l) hG (h := h5) 8 hK; rw [c8] at c0; exact c0) mf_X9_count mv_X9_count cf_X9 rfl (ac_0_0 hT0) lk_L_12 rfl ⟨(Nat.le_of_ble_eq_true rfl), (Nat.le_of_ble_eq_true rfl)⟩ ⟨(Nat.le_of_ble_eq_true rfl), (Nat.le_of_ble_eq_true rfl)⟩ rfl (Nat.le_of_ble_eq_true rfl) dL_law_396 (st2 := [.int 0]) rfl ?_
  refine q_if_ne (tgt := 443) X dL_law_399 (by decide) (fun q => absurd q (fun z => z rfl)) (fun _ => ?_)
  obtain ⟨v6, ev6⟩ : ∃ z, (S_X9_undo h5).1 = z := ⟨_, rfl⟩
  obtain ⟨h6, eh6⟩ : ∃ z, (S_X9_undo h5).2 = z := ⟨_, rfl⟩
  rw [ev6] at u0
  rw [eh6] at u1 u2
  refine q_aload_n X 1 dL_law_402 rfl ?_
  refine q_callV (h1 := h6) (rest := []) (As := []) X (by have c0 := c_X9_undo (l := l) hG (h := h5) hK; rw [ev6, eh6] at c0; exact c0) mf_X9_undo mv_X9_undo cf_X9 rfl (ac_0_0 hT0) lk_L_95 rfl ⟨(Nat.le_of_ble_eq_true rfl), (Nat.le_of_ble_eq_true rfl)⟩ ⟨(Nat.le_of_ble_eq_true rfl), (Nat.le_of_ble_eq_true rfl)⟩ rfl (Nat.le_of_ble_eq_true rfl) dL_law_403 (st2 := [.int v6]) rfl ?_
  refine q_if_lt (tgt := 443) X dL_law_406 (by decide) (fun q => absurd q (fun z => by have := Int32.lt_iff_toInt_lt.mp z; have z0 : (0 : Int32).toInt = 0 := rfl; omega)) (fun _ => ?_)
  refine VV_ag (h' := W5 h6 (h 2) (h 3) (h 4) (h 5)) hK u1 (fun g hg => W5_ne hg) ?_
  obtain ⟨h7, e7⟩ : ∃ z, W5 h6 (h 2) (h 3) (h 4) (h 5) = z := ⟨_, rfl⟩
  have s7 : SM h7 h := by rw [← e7]; exact SM_W5
  rw [e7]
  refine q_aload_n X 1 dL_law_409 rfl ?_
  refine q_callS (h1 := h7) (rest := []) (As := [.ref (gA G 0 0)]) X (by have c0 := c_L_digest (l := l) hG (h := h7) hK; rw [digest_sm s7, eD] at c0; exact c0) mf_L_digest ms_L_digest lk_L_83 rfl ⟨(Nat.le_of_ble_eq_true rfl), (Nat.le_of_ble_eq_true rfl)⟩ ⟨(Nat.le_of_ble_eq_true rfl), (Nat.le_of_ble_eq_true rfl)⟩ rfl (Nat.le_of_ble_eq_true rfl) dL_law_410 (st2 := [.long D]) rfl ?_
  refine q_lload_n X 0 dL_law_413 rfl ?_
  refine q_lcmp X dL_law_414 ?_
  rw [lgc_self]
  refine q_if_ne (tgt := 443) X dL_law_415 (by decide) (fun q => absurd q (fun z => z rfl)) (fun _ => ?_)
  refine q_aload_n X 1 dL_law_418 rfl ?_
  refine q_bipush (v := 13) X dL_law_419 (by decide) ?_
  refine q_callV (h1 := h7) (rest := []) (As := [.int 13]) X (by have c0 := c_X9_count (l := l) hG (h := h7) 13 hK; rw [count_13] at c0; exact c0) mf_X9_count mv_X9_count cf_X9 rfl (ac_0_0 hT0) lk_L_12 rfl ⟨(Nat.le_of_ble_eq_true rfl), (Nat.le_of_ble_eq_true rfl)⟩ ⟨(Nat.le_of_ble_eq_true rfl), (Nat.le_of_ble_eq_true rfl)⟩ rfl (Nat.le_of_ble_eq_true rfl) dL_law_421 (st2 := [.int (-100001)]) rfl ?_
  refine q_ldc X kc_L_108 dL_law_424 ?_
  refine q_icmp_ne (tgt := 443) X dL_law_426 (by decide) (fun q => absurd q (fun z => z rfl)) (fun _ => ?_)
  refine q_aload_n X 1 dL_law_429 rfl ?_
  refine q_iconst (v := 0) X dL_law_430 (by decide) ?_
  refine q_callV (h1 := h7) (rest := []) (As := [.int 0]) X (by have c0 := c_X9_append (l := l) hG (h := h7) (0) hK; rw [no_append] at c0; exact c0) mf_X9_append mv_X9_append cf_X9 rfl (ac_0_0 hT0) lk_L_112 rfl ⟨(Nat.le_of_ble_eq_true rfl), (Nat.le_of_ble_eq_true rfl)⟩ ⟨(Nat.le_of_ble_eq_true rfl), (Nat.le_of_ble_eq_true rfl)⟩ rfl (Nat.le_of_ble_eq_true rfl) dL_law_431 (st2 := [.int (-100001)]) rfl ?_
  refine q_ldc X kc_L_108 dL_law_434 ?_
  refine q_icmp_ne (tgt := 443) X dL_law_436 (by decide) (fun q => absurd q (fun z => z rfl)) (fun _ => ?_)
  refine q_iconst (v := 1) X dL_law_439 (by decide) ?_
  refine q_goto (tgt := 444) X dL_law_440 (by decide) ?_
  exact fun H locs ls hP hS hl => va_forget (fun q hq => hS.2.2 q hq) (W.widen (Nat.le_of_ble_eq_true rfl) (Nat.le_of_ble_eq_true rfl) (lw_ret X.1 X.2.1 hret X.2.2.2.2.2.2.2 dL_law_444))
