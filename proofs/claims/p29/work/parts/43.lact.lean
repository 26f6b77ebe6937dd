set_option maxRecDepth 100000 in
set_option maxHeartbeats 8000000 in
theorem law_act {G : Geo} {p : Program} {e : Env} {s : State} {m : MethodId} {below : List Frame} {meth : Method} {c : Code} (l : Launch) {b L : Nat} {xs : Nat → Int32} (hL : L ≤ 260) (X : CX G (fun q => s.heap.size ≤ q) p s m meth c RL cL_law 10) (hret : meth.sig.returnType = ret) (hK : KT G) (hX : va_X b L xs s s.heap) (hbl : b < s.heap.size) {t : Nat} {tt : Int32} (tail : ∀ (N' : Nat) (h' : Hp), t < 17 → INV N' h' → N' ≤ 12 + 2 * t → VV G (fun q => s.heap.size ≤ q) p l e room_1 s m #[Value.ref b] below meth c 91 906 (lw_Z below #[Value.ref b] s) 10 h' 175 [(2, .int tt), (1, .ref (gA G 0 0)), (0, .ref b)] []) (N : Nat) (h : Hp) (htt : tt.toInt = t) (t17 : t < 17) (hI : INV N h) (hN : N ≤ 10 + 2 * t) : VV G (fun q => s.heap.size ≤ q) p l e room_1 s m #[Value.ref b] below meth c 91 906 (lw_Z below #[Value.ref b] s) 10 h 73 [(2, .int tt), (1, .ref (gA G 0 0)), (0, .ref b)] [] := by
  have hbA : ¬ (fun q : Nat => s.heap.size ≤ q) b := Nat.not_le.mpr hbl
  have hG : GOK G := X.2.2.2.2.2.1
  have hT0 : gT G 0 = 0 := hK 0 (by decide)
  have hk : ¬ 2 + tt < 0 := by
    have e2 : (2 + tt).toInt = 2 + tt.toInt := ta (a := 2) (by show -2147483648 ≤ 2 + tt.toInt; omega) (by show 2 + tt.toInt < 2147483648; omega)
    generalize 2 + tt = w at e2 ⊢
    exact fun q => by have := Int32.lt_iff_toInt_lt.mp q; have z0 : (0 : Int32).toInt = 0 := rfl; omega
  refine q_aload_n X 2 dL_law_73 rfl ?_
  refine q_iconst (v := 2) X dL_law_74 (by decide) ?_
  refine q_iload_n X 0 dL_law_75 rfl ?_
  refine q_iadd X dL_law_76 ?_
  refine q_callC (rest := []) X (by omega) hX hbl hbA (k := (2 + tt)) hk lk_L_79 ⟨(Nat.le_of_ble_eq_true rfl), (Nat.le_of_ble_eq_true rfl)⟩ ⟨(Nat.le_of_ble_eq_true rfl), (Nat.le_of_ble_eq_true rfl)⟩ rfl (Nat.le_of_ble_eq_true rfl) dL_law_77 ?_
  obtain ⟨y, ey⟩ : ∃ z, S_L_cell L xs (2 + tt) = z := ⟨_, rfl⟩
  rw [ey]
  refine q_istore_n (lv' := [(3, .int y), (2, .int tt), (1, .ref (gA G 0 0)), (0, .ref b)]) X dL_law_80 (by decide) rfl ?_
  refine q_aload_n X 2 dL_law_81 rfl ?_
  obtain ⟨D, eD⟩ : ∃ D, S_L_digest h = D := ⟨_, rfl⟩
  refine q_callS (h1 := h) (rest := []) (As := [.ref (gA G 0 0)]) X (by have c0 := c_L_digest (l := l) hG (h := h) hK; rw [eD] at c0; exact c0) mf_L_digest ms_L_digest lk_L_83 rfl ⟨(Nat.le_of_ble_eq_true rfl), (Nat.le_of_ble_eq_true rfl)⟩ ⟨(Nat.le_of_ble_eq_true rfl), (Nat.le_of_ble_eq_true rfl)⟩ rfl (Nat.le_of_ble_eq_true rfl) dL_law_82 (st2 := [.long D]) rfl ?_
  refine q_lstore (lv' := [(4, .long D), (3, .int y), (2, .int tt), (1, .ref (gA G 0 0)), (0, .ref b)]) X dL_law_85 (by decide) rfl ?_
  refine q_aload_n X 3 dL_law_87 rfl ?_
  refine q_iload_n X 1 dL_law_88 rfl ?_
  rcases act_law y h hI.1 with ⟨v, hv, ha⟩ | ⟨v, ρ, π, μ, ν, hv, hw, ha⟩
  · skip
    have ha0 : S_L_act h y = (v, h) := ha h ⟨rfl, rfl, rfl, rfl⟩
    refine q_callS (h1 := h) (rest := []) (As := [.ref (gA G 0 0), .int y]) X (by have c0 := c_L_act (l := l) hG (h := h) y hK; rw [ha0] at c0; exact c0) mf_L_act ms_L_act lk_L_87 rfl ⟨(Nat.le_of_ble_eq_true rfl), (Nat.le_of_ble_eq_true rfl)⟩ ⟨(Nat.le_of_ble_eq_true rfl), (Nat.le_of_ble_eq_true rfl)⟩ rfl (Nat.le_of_ble_eq_true rfl) dL_law_89 (st2 := [.int v]) rfl ?_
    refine q_istore (lv' := [(6, .int v), (4, .long D), (3, .int y), (2, .int tt), (1, .ref (gA G 0 0)), (0, .ref b)]) X dL_law_92 (by decide) rfl ?_
    refine q_iload X 0 dL_law_94 rfl ?_
    refine q_if_ge (tgt := 109) X dL_law_96 (by decide) (fun q => by have := Int32.le_iff_toInt_le.mp q; have z0 : (0 : Int32).toInt = 0 := rfl; omega) (fun _ => ?_)
    refine q_aload_n X 4 dL_law_99 rfl ?_
    refine q_callS (h1 := h) (rest := []) (As := [.ref (gA G 0 0)]) X (by have c0 := c_L_digest (l := l) hG (h := h) hK; rw [eD] at c0; exact c0) mf_L_digest ms_L_digest lk_L_83 rfl ⟨(Nat.le_of_ble_eq_true rfl), (Nat.le_of_ble_eq_true rfl)⟩ ⟨(Nat.le_of_ble_eq_true rfl), (Nat.le_of_ble_eq_true rfl)⟩ rfl (Nat.le_of_ble_eq_true rfl) dL_law_100 (st2 := [.long D]) rfl ?_
    refine q_lload X 1 dL_law_103 rfl ?_
    refine q_lcmp X dL_law_105 ?_
    rw [lgc_self]
    refine q_if_ne (tgt := 116) X dL_law_106 (by decide) (fun q => absurd rfl q) (fun _ => ?_)
    refine q_aload_n X 4 dL_law_109 rfl ?_
    refine q_callS (h1 := h) (rest := []) (As := [.ref (gA G 0 0)]) X (by have c0 := c_L_isRight (l := l) hG (h := h) hK; rw [right_ok hI.1] at c0; exact c0) mf_L_isRight ms_L_isRight lk_L_91 rfl ⟨(Nat.le_of_ble_eq_true rfl), (Nat.le_of_ble_eq_true rfl)⟩ ⟨(Nat.le_of_ble_eq_true rfl), (Nat.le_of_ble_eq_true rfl)⟩ rfl (Nat.le_of_ble_eq_true rfl) dL_law_110 (st2 := [.int 1]) rfl ?_
    refine q_if_ne (tgt := 118) X dL_law_113 (by decide) (fun _ => ?_) (fun q => absurd q (by decide))
    refine q_iload X 0 dL_law_118 rfl ?_
    refine q_if_lt (tgt := 175) X dL_law_120 (by decide) (fun _ => ?_) (fun q => absurd (Int32.lt_iff_toInt_lt.mpr (by have z0 : (0 : Int32).toInt = 0 := rfl; omega)) q)
    refine q_sub (lv2 := [(2, .int tt), (1, .ref (gA G 0 0)), (0, .ref b)]) [3, 4, 5] rfl ?_
    exact tail N h t17 hI (by omega)
  · skip
    have ha0 : S_L_act h y = (v, W5 (S_X1_remember h) ρ π μ ν) := ha h ⟨rfl, rfl, rfl, rfl⟩
    obtain ⟨I1, T1⟩ := INV_step (by omega) hI hw
    obtain ⟨h1, eh1⟩ : ∃ z, W5 (S_X1_remember h) ρ π μ ν = z := ⟨_, rfl⟩
    rw [eh1] at ha0 I1 T1
    refine q_callS (h1 := h1) (rest := []) (As := [.ref (gA G 0 0), .int y]) X (by have c0 := c_L_act (l := l) hG (h := h) y hK; rw [ha0] at c0; exact c0) mf_L_act ms_L_act lk_L_87 rfl ⟨(Nat.le_of_ble_eq_true rfl), (Nat.le_of_ble_eq_true rfl)⟩ ⟨(Nat.le_of_ble_eq_true rfl), (Nat.le_of_ble_eq_true rfl)⟩ rfl (Nat.le_of_ble_eq_true rfl) dL_law_89 (st2 := [.int v]) rfl ?_
    refine q_istore (lv' := [(6, .int v), (4, .long D), (3, .int y), (2, .int tt), (1, .ref (gA G 0 0)), (0, .ref b)]) X dL_law_92 (by decide) rfl ?_
    refine q_iload X 0 dL_law_94 rfl ?_
    refine q_if_ge (tgt := 109) X dL_law_96 (by decide) (fun _ => ?_) (fun q => absurd (show (0 : Int32) ≤ v from Int32.le_iff_toInt_le.mpr hv) q)
    refine q_aload_n X 4 dL_law_109 rfl ?_
    refine q_callS (h1 := h1) (rest := []) (As := [.ref (gA G 0 0)]) X (by have c0 := c_L_isRight (l := l) hG (h := h1) hK; rw [right_ok I1.1] at c0; exact c0) mf_L_isRight ms_L_isRight lk_L_91 rfl ⟨(Nat.le_of_ble_eq_true rfl), (Nat.le_of_ble_eq_true rfl)⟩ ⟨(Nat.le_of_ble_eq_true rfl), (Nat.le_of_ble_eq_true rfl)⟩ rfl (Nat.le_of_ble_eq_true rfl) dL_law_110 (st2 := [.int 1]) rfl ?_
    refine q_if_ne (tgt := 118) X dL_law_113 (by decide) (fun _ => ?_) (fun q => absurd q (by decide))
    refine q_iload X 0 dL_law_118 rfl ?_
    refine q_if_lt (tgt := 175) X dL_law_120 (by decide) (fun q => by have := Int32.lt_iff_toInt_lt.mp q; have z0 : (0 : Int32).toInt = 0 := rfl; omega) (fun _ => ?_)
    refine q_iload_n X 3 dL_law_123 rfl ?_
    refine q_iconst (v := 3) X dL_law_124 (by decide) ?_
    refine q_iand X dL_law_125 ?_
    refine q_iconst (v := 1) X dL_law_126 (by decide) ?_
    by_cases c3 : (tt &&& 3) = 1
    rotate_left
    · skip
      refine q_icmp_ne (tgt := 175) X dL_law_127 (by decide) (fun _ => ?_) (fun q => absurd q c3)
      refine q_sub (lv2 := [(2, .int tt), (1, .ref (gA G 0 0)), (0, .ref b)]) [3, 4, 5] rfl ?_
      exact tail (N + 1) h1 t17 I1 (by omega)
    refine q_icmp_ne (tgt := 175) X dL_law_127 (by decide) (fun q => absurd c3 q) (fun _ => ?_)
    refine q_aload_n X 4 dL_law_130 rfl ?_
    obtain ⟨D1, eD1⟩ : ∃ D1, S_L_digest h1 = D1 := ⟨_, rfl⟩
    refine q_callS (h1 := h1) (rest := []) (As := [.ref (gA G 0 0)]) X (by have c0 := c_L_digest (l := l) hG (h := h1) hK; rw [eD1] at c0; exact c0) mf_L_digest ms_L_digest lk_L_83 rfl ⟨(Nat.le_of_ble_eq_true rfl), (Nat.le_of_ble_eq_true rfl)⟩ ⟨(Nat.le_of_ble_eq_true rfl), (Nat.le_of_ble_eq_true rfl)⟩ rfl (Nat.le_of_ble_eq_true rfl) dL_law_131 (st2 := [.long D1]) rfl ?_
    obtain ⟨u0, u1, u2⟩ := INV_undo I1.2.1 I1.2.2 T1 hI.1
    obtain ⟨v2, ev2⟩ : ∃ z, (S_X9_undo h1).1 = z := ⟨_, rfl⟩
    obtain ⟨h2, eh2⟩ : ∃ z, (S_X9_undo h1).2 = z := ⟨_, rfl⟩
    rw [ev2] at u0
    rw [eh2] at u1 u2
    refine q_lstore (lv' := [(7, .long D1), (6, .int v), (4, .long D), (3, .int y), (2, .int tt), (1, .ref (gA G 0 0)), (0, .ref b)]) X dL_law_134 (by decide) rfl ?_
    refine q_aload_n X 5 dL_law_136 rfl ?_
    refine q_callV (h1 := h2) (rest := []) (As := []) X (by have c0 := c_X9_undo (l := l) hG (h := h1) hK; rw [ev2, eh2] at c0; exact c0) mf_X9_undo mv_X9_undo cf_X9 rfl (ac_0_0 hT0) lk_L_95 rfl ⟨(Nat.le_of_ble_eq_true rfl), (Nat.le_of_ble_eq_true rfl)⟩ ⟨(Nat.le_of_ble_eq_true rfl), (Nat.le_of_ble_eq_true rfl)⟩ rfl (Nat.le_of_ble_eq_true rfl) dL_law_137 (st2 := [.int v2]) rfl ?_
    refine q_if_lt (tgt := 173) X dL_law_140 (by decide) (fun q => by have := Int32.lt_iff_toInt_lt.mp q; have z0 : (0 : Int32).toInt = 0 := rfl; omega) (fun _ => ?_)
    refine VV_ag (h' := W5 h2 (h 2) (h 3) (h 4) (h 5)) hK u1 (fun g hg => W5_ne hg) ?_
    obtain ⟨h3, e3⟩ : ∃ z, W5 h2 (h 2) (h 3) (h 4) (h 5) = z := ⟨_, rfl⟩
    have s3 : SM h3 h := by rw [← e3]; exact SM_W5
    rw [e3] at u2
    rw [e3]
    refine q_aload_n X 5 dL_law_143 rfl ?_
    refine q_callS (h1 := h3) (rest := []) (As := [.ref (gA G 0 0)]) X (by have c0 := c_L_digest (l := l) hG (h := h3) hK; rw [digest_sm s3, eD] at c0; exact c0) mf_L_digest ms_L_digest lk_L_83 rfl ⟨(Nat.le_of_ble_eq_true rfl), (Nat.le_of_ble_eq_true rfl)⟩ ⟨(Nat.le_of_ble_eq_true rfl), (Nat.le_of_ble_eq_true rfl)⟩ rfl (Nat.le_of_ble_eq_true rfl) dL_law_144 (st2 := [.long D]) rfl ?_
    refine q_lload X 2 dL_law_147 rfl ?_
    refine q_lcmp X dL_law_149 ?_
    rw [lgc_self]
    refine q_if_ne (tgt := 173) X dL_law_150 (by decide) (fun q => absurd rfl q) (fun _ => ?_)
    have ha3 : S_L_act h3 y = (v, W5 (S_X1_remember h3) ρ π μ ν) := ha h3 s3
    have I4 := (INV_step (by omega) u2 hw).1
    obtain ⟨h4, e4⟩ : ∃ z, W5 (S_X1_remember h3) ρ π μ ν = z := ⟨_, rfl⟩
    have s4 : SM h4 h1 := by rw [← e4, ← eh1]; exact SM_55
    rw [e4] at ha3 I4
    refine q_aload_n X 5 dL_law_153 rfl ?_
    refine q_iload_n X 3 dL_law_154 rfl ?_
    refine q_callS (h1 := h4) (rest := []) (As := [.ref (gA G 0 0), .int y]) X (by have c0 := c_L_act (l := l) hG (h := h3) y hK; rw [ha3] at c0; exact c0) mf_L_act ms_L_act lk_L_87 rfl ⟨(Nat.le_of_ble_eq_true rfl), (Nat.le_of_ble_eq_true rfl)⟩ ⟨(Nat.le_of_ble_eq_true rfl), (Nat.le_of_ble_eq_true rfl)⟩ rfl (Nat.le_of_ble_eq_true rfl) dL_law_155 (st2 := [.int v]) rfl ?_
    refine q_iload X 1 dL_law_158 rfl ?_
    refine q_icmp_ne (tgt := 173) X dL_law_160 (by decide) (fun q => absurd rfl q) (fun _ => ?_)
    refine q_aload_n X 5 dL_law_163 rfl ?_
    refine q_callS (h1 := h4) (rest := []) (As := [.ref (gA G 0 0)]) X (by have c0 := c_L_digest (l := l) hG (h := h4) hK; rw [digest_sm s4, eD1] at c0; exact c0) mf_L_digest ms_L_digest lk_L_83 rfl ⟨(Nat.le_of_ble_eq_true rfl), (Nat.le_of_ble_eq_true rfl)⟩ ⟨(Nat.le_of_ble_eq_true rfl), (Nat.le_of_ble_eq_true rfl)⟩ rfl (Nat.le_of_ble_eq_true rfl) dL_law_164 (st2 := [.long D1]) rfl ?_
    refine q_lload X 0 dL_law_167 rfl ?_
    refine q_lcmp X dL_law_169 ?_
    rw [lgc_self]
    refine q_if_eq (tgt := 175) X dL_law_170 (by decide) (fun _ => ?_) (fun q => absurd rfl q)
    refine q_sub (lv2 := [(2, .int tt), (1, .ref (gA G 0 0)), (0, .ref b)]) [4, 5, 6] rfl ?_
    exact tail (N + 1 + 1) h4 t17 I4 (by omega)
