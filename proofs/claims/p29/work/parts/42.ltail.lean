set_option maxRecDepth 100000 in
set_option maxHeartbeats 8000000 in
theorem law_tail {G : Geo} {p : Program} {e : Env} {s : State} {m : MethodId} {below : List Frame} {meth : Method} {c : Code} (l : Launch) {b L : Nat} {xs : Nat → Int32} (hL : L ≤ 260) (X : CX G (fun q => s.heap.size ≤ q) p s m meth c RL cL_law 10) (hret : meth.sig.returnType = ret) (hK : KT G) (hX : va_X b L xs s s.heap) (hbl : b < s.heap.size) {t : Nat} {tt : Int32} (fin : ∀ (N' : Nat) (h' : Hp), t < 17 → INV N' h' → N' ≤ 12 + 2 * t → VV G (fun q => s.heap.size ≤ q) p l e room_1 s m #[Value.ref b] below meth c 91 906 (lw_Z below #[Value.ref b] s) 10 h' 297 [(2, .int tt), (1, .ref (gA G 0 0)), (0, .ref b)] []) (N' : Nat) (h' : Hp) (t17 : t < 17) (hI' : INV N' h') (hN' : N' ≤ 12 + 2 * t) : VV G (fun q => s.heap.size ≤ q) p l e room_1 s m #[Value.ref b] below meth c 91 906 (lw_Z below #[Value.ref b] s) 10 h' 175 [(2, .int tt), (1, .ref (gA G 0 0)), (0, .ref b)] [] := by
  have hbA : ¬ (fun q : Nat => s.heap.size ≤ q) b := Nat.not_le.mpr hbl
  have hG : GOK G := X.2.2.2.2.2.1
  have hT0 : gT G 0 = 0 := hK 0 (by decide)
  refine q_iload_n X 0 dL_law_175 rfl ?_
  refine q_iconst (v := 5) X dL_law_176 (by decide) ?_
  refine q_irem X dL_law_177 (by decide) ?_
  refine q_iconst (v := 3) X dL_law_178 (by decide) ?_
  by_cases c : tt - tt / 5 * 5 = 3
  rotate_left
  · skip
    refine q_icmp_ne (tgt := 297) X dL_law_179 (by decide) (fun _ => ?_) (fun q => absurd q c)
    refine q_sub (lv2 := [(2, .int tt), (1, .ref (gA G 0 0)), (0, .ref b)]) [0, 1, 2] rfl ?_
    exact fin N' h' t17 hI' hN'
  refine q_icmp_ne (tgt := 297) X dL_law_179 (by decide) (fun q => absurd c q) (fun _ => ?_)
  refine q_aload_n X 1 dL_law_182 rfl ?_
  obtain ⟨D, eD⟩ : ∃ D, S_L_digest h' = D := ⟨_, rfl⟩
  refine q_callS (h1 := h') (rest := []) (As := [.ref (gA G 0 0)]) X (by have c0 := c_L_digest (l := l) hG (h := h') hK; rw [eD] at c0; exact c0) mf_L_digest ms_L_digest lk_L_83 rfl ⟨(Nat.le_of_ble_eq_true rfl), (Nat.le_of_ble_eq_true rfl)⟩ ⟨(Nat.le_of_ble_eq_true rfl), (Nat.le_of_ble_eq_true rfl)⟩ rfl (Nat.le_of_ble_eq_true rfl) dL_law_183 (st2 := [.long D]) rfl ?_
  refine q_lstore (lv' := [(7, .long D), (2, .int tt), (1, .ref (gA G 0 0)), (0, .ref b)]) X dL_law_186 (by decide) rfl ?_
  refine q_aload_n X 2 dL_law_188 rfl ?_
  refine q_iconst (v := 1) X dL_law_189 (by decide) ?_
  refine q_callV (h1 := h') (rest := []) (As := [.int 1]) X (by have c0 := c_X9_count (l := l) hG (h := h') 1 hK; rw [count_1] at c0; exact c0) mf_X9_count mv_X9_count cf_X9 rfl (ac_0_0 hT0) lk_L_12 rfl ⟨(Nat.le_of_ble_eq_true rfl), (Nat.le_of_ble_eq_true rfl)⟩ ⟨(Nat.le_of_ble_eq_true rfl), (Nat.le_of_ble_eq_true rfl)⟩ rfl (Nat.le_of_ble_eq_true rfl) dL_law_190 (st2 := [.int (h' 2 1)]) rfl ?_
  refine q_iconst (v := 1) X dL_law_193 (by decide) ?_
  by_cases cr : h' 2 1 = 1
  · skip
    refine q_icmp_ne (tgt := 201) X dL_law_194 (by decide) (fun q => absurd cr q) (fun _ => ?_)
    refine q_iconst (v := 1) X dL_law_197 (by decide) ?_
    refine q_goto (tgt := 202) X dL_law_198 (by decide) ?_
    refine q_istore (lv' := [(9, .int 1), (7, .long D), (2, .int tt), (1, .ref (gA G 0 0)), (0, .ref b)]) X dL_law_202 (by decide) rfl ?_
    refine q_aload_n X 3 dL_law_204 rfl ?_
    refine q_sipush (v := 1500) X dL_law_205 (by decide) ?_
    obtain ⟨a1, ea1⟩ : ∃ z, (S_X9_ticksTo (h' 2) (h' 3) (h' 4) (h' 6) 1500).1 = z := ⟨_, rfl⟩
    obtain ⟨g1, eg1⟩ : ∃ z, va_up h' 6 (S_X9_ticksTo (h' 2) (h' 3) (h' 4) (h' 6) 1500).2 = z := ⟨_, rfl⟩
    obtain ⟨j1, s1⟩ : INV N' g1 ∧ SM g1 h' := by rw [← eg1]; exact INV_trial hI'
    have n1 : ¬ a1 = -100002 := by
      rw [← ea1]
      exact fun z => (fc_until.mp z) cr
    refine q_callV (h1 := g1) (rest := []) (As := [.int 1500]) X (by have c0 := c_X9_ticksTo (l := l) hG (h := h') 1500 hK rfl rfl rfl rfl; rw [ea1, eg1] at c0; exact c0) mf_X9_ticksTo mv_X9_ticksTo cf_X9 rfl (ac_0_0 hT0) lk_L_98 rfl ⟨(Nat.le_of_ble_eq_true rfl), (Nat.le_of_ble_eq_true rfl)⟩ ⟨(Nat.le_of_ble_eq_true rfl), (Nat.le_of_ble_eq_true rfl)⟩ rfl (Nat.le_of_ble_eq_true rfl) dL_law_208 (st2 := [.int a1]) rfl ?_
    refine q_ldc X kc_L_101 dL_law_211 ?_
    refine q_icmp_ne (tgt := 220) X dL_law_213 (by decide) (fun _ => ?_) (fun q => absurd q n1)
    refine q_iconst (v := 0) X dL_law_220 (by decide) ?_
    refine q_iload X 0 dL_law_221 rfl ?_
    refine q_icmp_eq (tgt := 295) X dL_law_223 (by decide) (fun q => absurd q (by decide)) (fun _ => ?_)
    refine q_aload_n X 3 dL_law_226 rfl ?_
    refine q_bipush (v := 50) X dL_law_227 (by decide) ?_
    obtain ⟨a2, ea2⟩ : ∃ z, (S_X9_ticksToLoss (g1 2) (g1 3) (g1 4) (g1 6) 50).1 = z := ⟨_, rfl⟩
    obtain ⟨g2, eg2⟩ : ∃ z, va_up g1 6 (S_X9_ticksToLoss (g1 2) (g1 3) (g1 4) (g1 6) 50).2 = z := ⟨_, rfl⟩
    obtain ⟨j2, s2⟩ : INV N' g2 ∧ SM g2 h' := by obtain ⟨x, y⟩ := INV_trial (θ := (S_X9_ticksToLoss (g1 2) (g1 3) (g1 4) (g1 6) 50).2) j1; rw [eg2] at x y; exact ⟨x, y.1.trans s1.1, y.2.1.trans s1.2.1, y.2.2.1.trans s1.2.2.1, y.2.2.2.trans s1.2.2.2⟩
    have n2 : ¬ a2 = -100002 := by
      rw [← ea2]
      rw [s1.1, s1.2.1]
      exact fun z => (fc_loss.mp z) cr
    refine q_callV (h1 := g2) (rest := []) (As := [.int 50]) X (by have c0 := c_X9_ticksToLoss (l := l) hG (h := g1) 50 hK rfl rfl rfl rfl; rw [ea2, eg2] at c0; exact c0) mf_X9_ticksToLoss mv_X9_ticksToLoss cf_X9 rfl (ac_0_0 hT0) lk_L_102 rfl ⟨(Nat.le_of_ble_eq_true rfl), (Nat.le_of_ble_eq_true rfl)⟩ ⟨(Nat.le_of_ble_eq_true rfl), (Nat.le_of_ble_eq_true rfl)⟩ rfl (Nat.le_of_ble_eq_true rfl) dL_law_229 (st2 := [.int a2]) rfl ?_
    refine q_ldc X kc_L_101 dL_law_232 ?_
    refine q_icmp_ne (tgt := 241) X dL_law_234 (by decide) (fun _ => ?_) (fun q => absurd q n2)
    refine q_iconst (v := 0) X dL_law_241 (by decide) ?_
    refine q_iload X 0 dL_law_242 rfl ?_
    refine q_icmp_eq (tgt := 295) X dL_law_244 (by decide) (fun q => absurd q (by decide)) (fun _ => ?_)
    refine q_aload_n X 3 dL_law_247 rfl ?_
    refine q_bipush (v := 9) X dL_law_248 (by decide) ?_
    by_cases cp : h' 3 0 = 0
    · skip
      obtain ⟨a3, ea3⟩ : ∃ z, (S_X9_bestBias (g2 2) (g2 3) (g2 4) (g2 6) 9).1 = z := ⟨_, rfl⟩
      obtain ⟨g3, eg3⟩ : ∃ z, va_up g2 6 (S_X9_bestBias (g2 2) (g2 3) (g2 4) (g2 6) 9).2 = z := ⟨_, rfl⟩
      obtain ⟨j3, s3⟩ : INV N' g3 ∧ SM g3 h' := by obtain ⟨x, y⟩ := INV_trial (θ := (S_X9_bestBias (g2 2) (g2 3) (g2 4) (g2 6) 9).2) j2; rw [eg3] at x y; exact ⟨x, y.1.trans s2.1, y.2.1.trans s2.2.1, y.2.2.1.trans s2.2.2.1, y.2.2.2.trans s2.2.2.2⟩
      have n3 : a3 = -100002 := by
        rw [← ea3]
        rw [s2.1, s2.2.1]
        exact fc_best.mpr (Or.inr cp)
      refine q_callV (h1 := g3) (rest := []) (As := [.int 9]) X (by have c0 := c_X9_bestBias (l := l) hG (h := g2) 9 hK rfl rfl rfl rfl; rw [ea3, eg3] at c0; exact c0) mf_X9_bestBias mv_X9_bestBias cf_X9 rfl (ac_0_0 hT0) lk_L_105 rfl ⟨(Nat.le_of_ble_eq_true rfl), (Nat.le_of_ble_eq_true rfl)⟩ ⟨(Nat.le_of_ble_eq_true rfl), (Nat.le_of_ble_eq_true rfl)⟩ rfl (Nat.le_of_ble_eq_true rfl) dL_law_250 (st2 := [.int a3]) rfl ?_
      refine q_ldc X kc_L_101 dL_law_253 ?_
      refine q_icmp_ne (tgt := 262) X dL_law_255 (by decide) (fun q => absurd n3 q) (fun _ => ?_)
      refine q_iconst (v := 1) X dL_law_258 (by decide) ?_
      refine q_goto (tgt := 263) X dL_law_259 (by decide) ?_
      refine q_iload X 0 dL_law_263 rfl ?_
      refine q_if_eq (tgt := 277) X dL_law_265 (by decide) (fun q => absurd q (by decide)) (fun _ => ?_)
      refine q_aload_n X 3 dL_law_268 rfl ?_
      refine q_bipush (v := 8) X dL_law_269 (by decide) ?_
      refine q_callV (h1 := g3) (rest := [.int 1]) (As := [.int 8]) X (by have c0 := c_X9_count (l := l) hG (h := g3) 8 hK; rw [count_8, s3.2.1] at c0; exact c0) mf_X9_count mv_X9_count cf_X9 rfl (ac_0_0 hT0) lk_L_12 rfl ⟨(Nat.le_of_ble_eq_true rfl), (Nat.le_of_ble_eq_true rfl)⟩ ⟨(Nat.le_of_ble_eq_true rfl), (Nat.le_of_ble_eq_true rfl)⟩ rfl (Nat.le_of_ble_eq_true rfl) dL_law_271 (st2 := [.int (h' 3 0), .int 1]) rfl ?_
      refine q_if_ne (tgt := 281) X dL_law_274 (by decide) (fun q => absurd cp q) (fun _ => ?_)
      refine q_iconst (v := 1) X dL_law_277 (by decide) ?_
      refine q_goto (tgt := 282) X dL_law_278 (by decide) ?_
      refine q_icmp_ne (tgt := 295) X dL_law_282 (by decide) (fun q => absurd rfl q) (fun _ => ?_)
      refine q_aload_n X 3 dL_law_285 rfl ?_
      refine q_callS (h1 := g3) (rest := []) (As := [.ref (gA G 0 0)]) X (by have c0 := c_L_digest (l := l) hG (h := g3) hK; rw [digest_sm s3, eD] at c0; exact c0) mf_L_digest ms_L_digest lk_L_83 rfl ⟨(Nat.le_of_ble_eq_true rfl), (Nat.le_of_ble_eq_true rfl)⟩ ⟨(Nat.le_of_ble_eq_true rfl), (Nat.le_of_ble_eq_true rfl)⟩ rfl (Nat.le_of_ble_eq_true rfl) dL_law_286 (st2 := [.long D]) rfl ?_
      refine q_lload X 1 dL_law_289 rfl ?_
      refine q_lcmp X dL_law_291 ?_
      rw [lgc_self]
      refine q_if_eq (tgt := 297) X dL_law_292 (by decide) (fun _ => ?_) (fun q => absurd rfl q)
      refine q_sub (lv2 := [(2, .int tt), (1, .ref (gA G 0 0)), (0, .ref b)]) [2, 3, 4] rfl ?_
      exact fin N' g3 t17 j3 hN'
    · skip
      obtain ⟨a3, ea3⟩ : ∃ z, (S_X9_bestBias (g2 2) (g2 3) (g2 4) (g2 6) 9).1 = z := ⟨_, rfl⟩
      obtain ⟨g3, eg3⟩ : ∃ z, va_up g2 6 (S_X9_bestBias (g2 2) (g2 3) (g2 4) (g2 6) 9).2 = z := ⟨_, rfl⟩
      obtain ⟨j3, s3⟩ : INV N' g3 ∧ SM g3 h' := by obtain ⟨x, y⟩ := INV_trial (θ := (S_X9_bestBias (g2 2) (g2 3) (g2 4) (g2 6) 9).2) j2; rw [eg3] at x y; exact ⟨x, y.1.trans s2.1, y.2.1.trans s2.2.1, y.2.2.1.trans s2.2.2.1, y.2.2.2.trans s2.2.2.2⟩
      have n3 : ¬ a3 = -100002 := by
        rw [← ea3]
        rw [s2.1, s2.2.1]
        exact fun z => (fc_best.mp z).elim (fun w => w cr) cp
      refine q_callV (h1 := g3) (rest := []) (As := [.int 9]) X (by have c0 := c_X9_bestBias (l := l) hG (h := g2) 9 hK rfl rfl rfl rfl; rw [ea3, eg3] at c0; exact c0) mf_X9_bestBias mv_X9_bestBias cf_X9 rfl (ac_0_0 hT0) lk_L_105 rfl ⟨(Nat.le_of_ble_eq_true rfl), (Nat.le_of_ble_eq_true rfl)⟩ ⟨(Nat.le_of_ble_eq_true rfl), (Nat.le_of_ble_eq_true rfl)⟩ rfl (Nat.le_of_ble_eq_true rfl) dL_law_250 (st2 := [.int a3]) rfl ?_
      refine q_ldc X kc_L_101 dL_law_253 ?_
      refine q_icmp_ne (tgt := 262) X dL_law_255 (by decide) (fun _ => ?_) (fun q => absurd q n3)
      refine q_iconst (v := 0) X dL_law_262 (by decide) ?_
      refine q_iload X 0 dL_law_263 rfl ?_
      refine q_if_eq (tgt := 277) X dL_law_265 (by decide) (fun q => absurd q (by decide)) (fun _ => ?_)
      refine q_aload_n X 3 dL_law_268 rfl ?_
      refine q_bipush (v := 8) X dL_law_269 (by decide) ?_
      refine q_callV (h1 := g3) (rest := [.int 0]) (As := [.int 8]) X (by have c0 := c_X9_count (l := l) hG (h := g3) 8 hK; rw [count_8, s3.2.1] at c0; exact c0) mf_X9_count mv_X9_count cf_X9 rfl (ac_0_0 hT0) lk_L_12 rfl ⟨(Nat.le_of_ble_eq_true rfl), (Nat.le_of_ble_eq_true rfl)⟩ ⟨(Nat.le_of_ble_eq_true rfl), (Nat.le_of_ble_eq_true rfl)⟩ rfl (Nat.le_of_ble_eq_true rfl) dL_law_271 (st2 := [.int (h' 3 0), .int 0]) rfl ?_
      refine q_if_ne (tgt := 281) X dL_law_274 (by decide) (fun _ => ?_) (fun q => absurd q cp)
      refine q_iconst (v := 0) X dL_law_281 (by decide) ?_
      refine q_icmp_ne (tgt := 295) X dL_law_282 (by decide) (fun q => absurd rfl q) (fun _ => ?_)
      refine q_aload_n X 3 dL_law_285 rfl ?_
      refine q_callS (h1 := g3) (rest := []) (As := [.ref (gA G 0 0)]) X (by have c0 := c_L_digest (l := l) hG (h := g3) hK; rw [digest_sm s3, eD] at c0; exact c0) mf_L_digest ms_L_digest lk_L_83 rfl ⟨(Nat.le_of_ble_eq_true rfl), (Nat.le_of_ble_eq_true rfl)⟩ ⟨(Nat.le_of_ble_eq_true rfl), (Nat.le_of_ble_eq_true rfl)⟩ rfl (Nat.le_of_ble_eq_true rfl) dL_law_286 (st2 := [.long D]) rfl ?_
      refine q_lload X 1 dL_law_289 rfl ?_
      refine q_lcmp X dL_law_291 ?_
      rw [lgc_self]
      refine q_if_eq (tgt := 297) X dL_law_292 (by decide) (fun _ => ?_) (fun q => absurd rfl q)
      refine q_sub (lv2 := [(2, .int tt), (1, .ref (gA G 0 0)), (0, .ref b)]) [2, 3, 4] rfl ?_
      exact fin N' g3 t17 j3 hN'
  · skip
    refine q_icmp_ne (tgt := 201) X dL_law_194 (by decide) (fun _ => ?_) (fun q => absurd q cr)
    refine q_iconst (v := 0) X dL_law_201 (by decide) ?_
    refine q_istore (lv' := [(9, .int 0), (7, .long D), (2, .int tt), (1, .ref (gA G 0 0)), (0, .ref b)]) X dL_law_202 (by decide) rfl ?_
    refine q_aload_n X 3 dL_law_204 rfl ?_
    refine q_sipush (v := 1500) X dL_law_205 (by decide) ?_
    obtain ⟨a1, ea1⟩ : ∃ z, (S_X9_ticksTo (h' 2) (h' 3) (h' 4) (h' 6) 1500).1 = z := ⟨_, rfl⟩
    obtain ⟨g1, eg1⟩ : ∃ z, va_up h' 6 (S_X9_ticksTo (h' 2) (h' 3) (h' 4) (h' 6) 1500).2 = z := ⟨_, rfl⟩
    obtain ⟨j1, s1⟩ : INV N' g1 ∧ SM g1 h' := by rw [← eg1]; exact INV_trial hI'
    have n1 : a1 = -100002 := by
      rw [← ea1]
      exact fc_until.mpr cr
    refine q_callV (h1 := g1) (rest := []) (As := [.int 1500]) X (by have c0 := c_X9_ticksTo (l := l) hG (h := h') 1500 hK rfl rfl rfl rfl; rw [ea1, eg1] at c0; exact c0) mf_X9_ticksTo mv_X9_ticksTo cf_X9 rfl (ac_0_0 hT0) lk_L_98 rfl ⟨(Nat.le_of_ble_eq_true rfl), (Nat.le_of_ble_eq_true rfl)⟩ ⟨(Nat.le_of_ble_eq_true rfl), (Nat.le_of_ble_eq_true rfl)⟩ rfl (Nat.le_of_ble_eq_true rfl) dL_law_208 (st2 := [.int a1]) rfl ?_
    refine q_ldc X kc_L_101 dL_law_211 ?_
    refine q_icmp_ne (tgt := 220) X dL_law_213 (by decide) (fun q => absurd n1 q) (fun _ => ?_)
    refine q_iconst (v := 1) X dL_law_216 (by decide) ?_
    refine q_goto (tgt := 221) X dL_law_217 (by decide) ?_
    refine q_iload X 0 dL_law_221 rfl ?_
    refine q_icmp_eq (tgt := 295) X dL_law_223 (by decide) (fun q => absurd q (by decide)) (fun _ => ?_)
    refine q_aload_n X 3 dL_law_226 rfl ?_
    refine q_bipush (v := 50) X dL_law_227 (by decide) ?_
    obtain ⟨a2, ea2⟩ : ∃ z, (S_X9_ticksToLoss (g1 2) (g1 3) (g1 4) (g1 6) 50).1 = z := ⟨_, rfl⟩
    obtain ⟨g2, eg2⟩ : ∃ z, va_up g1 6 (S_X9_ticksToLoss (g1 2) (g1 3) (g1 4) (g1 6) 50).2 = z := ⟨_, rfl⟩
    obtain ⟨j2, s2⟩ : INV N' g2 ∧ SM g2 h' := by obtain ⟨x, y⟩ := INV_trial (θ := (S_X9_ticksToLoss (g1 2) (g1 3) (g1 4) (g1 6) 50).2) j1; rw [eg2] at x y; exact ⟨x, y.1.trans s1.1, y.2.1.trans s1.2.1, y.2.2.1.trans s1.2.2.1, y.2.2.2.trans s1.2.2.2⟩
    have n2 : a2 = -100002 := by
      rw [← ea2]
      rw [s1.1, s1.2.1]
      exact fc_loss.mpr cr
    refine q_callV (h1 := g2) (rest := []) (As := [.int 50]) X (by have c0 := c_X9_ticksToLoss (l := l) hG (h := g1) 50 hK rfl rfl rfl rfl; rw [ea2, eg2] at c0; exact c0) mf_X9_ticksToLoss mv_X9_ticksToLoss cf_X9 rfl (ac_0_0 hT0) lk_L_102 rfl ⟨(Nat.le_of_ble_eq_true rfl), (Nat.le_of_ble_eq_true rfl)⟩ ⟨(Nat.le_of_ble_eq_true rfl), (Nat.le_of_ble_eq_true rfl)⟩ rfl (Nat.le_of_ble_eq_true rfl) dL_law_229 (st2 := [.int a2]) rfl ?_
    refine q_ldc X kc_L_101 dL_law_232 ?_
    refine q_icmp_ne (tgt := 241) X dL_law_234 (by decide) (fun q => absurd n2 q) (fun _ => ?_)
    refine q_iconst (v := 1) X dL_law_237 (by decide) ?_
    refine q_goto (tgt := 242) X dL_law_238 (by decide) ?_
    refine q_iload X 0 dL_law_242 rfl ?_
    refine q_icmp_eq (tgt := 295) X dL_law_244 (by decide) (fun q => absurd q (by decide)) (fun _ => ?_)
    refine q_aload_n X 3 dL_law_247 rfl ?_
    refine q_bipush (v := 9) X dL_law_248 (by decide) ?_
    obtain ⟨a3, ea3⟩ : ∃ z, (S_X9_bestBias (g2 2) (g2 3) (g2 4) (g2 6) 9).1 = z := ⟨_, rfl⟩
    obtain ⟨g3, eg3⟩ : ∃ z, va_up g2 6 (S_X9_bestBias (g2 2) (g2 3) (g2 4) (g2 6) 9).2 = z := ⟨_, rfl⟩
    obtain ⟨j3, s3⟩ : INV N' g3 ∧ SM g3 h' := by obtain ⟨x, y⟩ := INV_trial (θ := (S_X9_bestBias (g2 2) (g2 3) (g2 4) (g2 6) 9).2) j2; rw [eg3] at x y; exact ⟨x, y.1.trans s2.1, y.2.1.trans s2.2.1, y.2.2.1.trans s2.2.2.1, y.2.2.2.trans s2.2.2.2⟩
    have n3 : a3 = -100002 := by
      rw [← ea3]
      rw [s2.1, s2.2.1]
      exact fc_best.mpr (Or.inl cr)
    refine q_callV (h1 := g3) (rest := []) (As := [.int 9]) X (by have c0 := c_X9_bestBias (l := l) hG (h := g2) 9 hK rfl rfl rfl rfl; rw [ea3, eg3] at c0; exact c0) mf_X9_bestBias mv_X9_bestBias cf_X9 rfl (ac_0_0 hT0) lk_L_105 rfl ⟨(Nat.le_of_ble_eq_true rfl), (Nat.le_of_ble_eq_true rfl)⟩ ⟨(Nat.le_of_ble_eq_true rfl), (Nat.le_of_ble_eq_true rfl)⟩ rfl (Nat.le_of_ble_eq_true rfl) dL_law_250 (st2 := [.int a3]) rfl ?_
    refine q_ldc X kc_L_101 dL_law_253 ?_
    refine q_icmp_ne (tgt := 262) X dL_law_255 (by decide) (fun q => absurd n3 q) (fun _ => ?_)
    refine q_iconst (v := 1) X dL_law_258 (by decide) ?_
    refine q_goto (tgt := 263) X dL_law_259 (by decide) ?_
    refine q_iload X 0 dL_law_263 rfl ?_
    refine q_if_eq (tgt := 277) X dL_law_265 (by decide) (fun _ => ?_) (fun q => absurd rfl q)
    refine q_iconst (v := 1) X dL_law_277 (by decide) ?_
    refine q_goto (tgt := 282) X dL_law_278 (by decide) ?_
    refine q_icmp_ne (tgt := 295) X dL_law_282 (by decide) (fun q => absurd rfl q) (fun _ => ?_)
    refine q_aload_n X 3 dL_law_285 rfl ?_
    refine q_callS (h1 := g3) (rest := []) (As := [.ref (gA G 0 0)]) X (by have c0 := c_L_digest (l := l) hG (h := g3) hK; rw [digest_sm s3, eD] at c0; exact c0) mf_L_digest ms_L_digest lk_L_83 rfl ⟨(Nat.le_of_ble_eq_true rfl), (Nat.le_of_ble_eq_true rfl)⟩ ⟨(Nat.le_of_ble_eq_true rfl), (Nat.le_of_ble_eq_true rfl)⟩ rfl (Nat.le_of_ble_eq_true rfl) dL_law_286 (st2 := [.long D]) rfl ?_
    refine q_lload X 1 dL_law_289 rfl ?_
    refine q_lcmp X dL_law_291 ?_
    rw [lgc_self]
    refine q_if_eq (tgt := 297) X dL_law_292 (by decide) (fun _ => ?_) (fun q => absurd rfl q)
    refine q_sub (lv2 := [(2, .int tt), (1, .ref (gA G 0 0)), (0, .ref b)]) [2, 3, 4] rfl ?_
    exact fin N' g3 t17 j3 hN'
