theorem TI_t0 {κ : Nat → Int32} {v : Int32} (h : TI κ) : TI (va_up κ 0 v) := h
theorem TI_n0 {κ : Nat → Int32} (h : TI κ) : TI (va_up κ 3 0) := ⟨h.1, h.2.1, by show 0 ≤ (0 : Int32).toInt ∧ (0 : Int32).toInt ≤ 1000; decide⟩
theorem ti200 {κ : Nat → Int32} (h : TI κ) : ((κ 2).toInt - (κ 3).toInt).toNat < 200 := by
  obtain ⟨-, h2, h3⟩ := h
  omega
theorem ld_dec {κ σ τ : Nat → Int32} {be : Int32} {f : Nat} (hN : TI κ) (hn : ¬ κ 2 ≤ κ 3) (hs : 0 ≤ (σ 32).toInt ∧ (σ 32).toInt ≤ 8) (hm : ((κ 2).toInt - (κ 3).toInt).toNat < f + 1) : ((S_X10_skip (S_X10_readPoint κ σ τ be).1 τ 2).toInt - (S_X10_skip (S_X10_readPoint κ σ τ be).1 τ 3).toInt).toNat < f := by
  have h1 := read_f (τ := τ) (be := be) hN hn hs
  generalize (S_X10_readPoint κ σ τ be).1 = R at h1 ⊢
  have h2 := skip_SK (τ := τ) h1.1
  generalize S_X10_skip R τ = R2 at h2 ⊢
  have h3 := h2.1 2 (by decide) (by decide)
  have h4 := h2.2.1
  have h5 := nle hn
  rw [h3, h1.2.1]
  omega
theorem ix_33k {k : Int32} (h0 : 0 ≤ k.toInt) (h1 : ¬ 16 ≤ k) : vp_in (33 + k) 112 := by
  have h2 : k.toInt < 16 := nle h1
  have e : (33 + k).toInt = 33 + k.toInt := ta (a := 33) (by show -2147483648 ≤ 33 + k.toInt; omega) (by show 33 + k.toInt < 2147483648; omega)
  exact vin_i (by omega) (by omega)
def L_X10_load_172 (fu : Nat) (κ : Nat → Int32) (σ : Nat → Int32) (α : Nat → Int32) (β : Nat → Int32) (τ : Nat → Int32) (ω : Nat → Int32) (k : Int32) (κ1 : Nat → Int32) (σ1 : Nat → Int32) (α1 : Nat → Int32) (β1 : Nat → Int32) (ω1 : Nat → Int32) (re : Int32) : Int32 × (Nat → Int32) × (Nat → Int32) × (Nat → Int32) × (Nat → Int32) × (Nat → Int32) := match fu with
  | 0 => (0, (fun _ => 0), (fun _ => 0), (fun _ => 0), (fun _ => 0), (fun _ => 0))
  | fu + 1 => if 16 ≤ k then (let r23 : Nat → Int32 := va_up κ1 2 0; (re, r23, σ1, α1, β1, ω1)) else (let r24 : Nat → Int32 := va_up σ1 (Int32.toNatClampNeg (33 + k)) (ω1 (Int32.toNatClampNeg k)); L_X10_load_172 fu κ σ α β τ ω (k + 1) κ1 r24 α1 β1 ω1 re)
def L_X10_load_127 (fu : Nat) (κ : Nat → Int32) (σ : Nat → Int32) (α : Nat → Int32) (β : Nat → Int32) (τ : Nat → Int32) (ω : Nat → Int32) (k : Int32) (κ1 : Nat → Int32) (σ1 : Nat → Int32) (α1 : Nat → Int32) (ω1 : Nat → Int32) (re : Int32) : Int32 × (Nat → Int32) × (Nat → Int32) × (Nat → Int32) × (Nat → Int32) × (Nat → Int32) := match fu with
  | 0 => (0, (fun _ => 0), (fun _ => 0), (fun _ => 0), (fun _ => 0), (fun _ => 0))
  | fu + 1 => if 16 ≤ k then (let r17 : Nat → Int32 := S_X10_release σ1 α1; let r18 : Nat → Int32 := (S_X10_act κ1 r17 β).1; let r19 : Nat → Int32 := (S_X10_act κ1 r17 β).2; let r20 : Nat → Int32 := va_up r17 32 re; L_X10_load_172 17 κ σ α β τ ω 0 r18 r20 α1 r19 ω1 re) else (let r21 : Nat → Int32 := va_up ω1 (Int32.toNatClampNeg k) (σ1 (Int32.toNatClampNeg (33 + k))); L_X10_load_127 fu κ σ α β τ ω (k + 1) κ1 σ1 α1 r21 re)
def L_X10_load_32 (fu : Nat) (κ : Nat → Int32) (σ : Nat → Int32) (α : Nat → Int32) (β : Nat → Int32) (τ : Nat → Int32) (ω : Nat → Int32) (κ1 : Nat → Int32) (σ1 : Nat → Int32) (α1 : Nat → Int32) : Int32 × (Nat → Int32) × (Nat → Int32) × (Nat → Int32) × (Nat → Int32) × (Nat → Int32) := match fu with
  | 0 => (0, (fun _ => 0), (fun _ => 0), (fun _ => 0), (fun _ => 0), (fun _ => 0))
  | fu + 1 => if (κ1 4) = (-100009) then (if (κ1 2) ≤ (κ1 3) then (L_X10_load_127 17 κ σ α β τ ω 0 κ1 σ1 α1 ω (σ1 32)) else (let m11 : Int32 := if (σ1 32) = 0 then ((-1)) else (σ1 (Int32.toNatClampNeg ((33 + (2 * (σ1 32))) - 2))); let r13 : Nat → Int32 := (S_X10_readPoint κ1 σ1 τ m11).1; let r14 : Nat → Int32 := (S_X10_readPoint κ1 σ1 τ m11).2; let r15 : Nat → Int32 := S_X10_skip r13 τ; L_X10_load_32 fu κ σ α β τ ω r15 r14 α1)) else (let r8 : Nat → Int32 := S_X10_release σ1 α1; ((-200000) - (κ1 4), κ1, r8, α1, β, ω))
def S_X10_load (κ : Nat → Int32) (σ : Nat → Int32) (α : Nat → Int32) (β : Nat → Int32) (τ : Nat → Int32) (ω : Nat → Int32) : Int32 × (Nat → Int32) × (Nat → Int32) × (Nat → Int32) × (Nat → Int32) × (Nat → Int32) := let r1 : Nat → Int32 := va_up κ 0 0; let r2 : Nat → Int32 := S_X10_hold σ α; let r3 : Nat → Int32 := va_up σ 32 0; let r4 : Nat → Int32 := va_up r1 3 0; let r5 : Nat → Int32 := va_up r4 4 (-100009); let r6 : Nat → Int32 := S_X10_skip r5 τ; L_X10_load_32 200 κ σ α β τ ω r6 r3 r2
set_option maxRecDepth 100000 in
set_option maxHeartbeats 4000000 in
theorem w_X10_load_172 {G : Geo} {p : Program} {l : Launch} {e : Env} {s : State} {m : MethodId} {args : Array Value} {below : List Frame} {meth : Method} {c : Code} {h : Hp} {κ : Nat → Int32} {σ : Nat → Int32} {α : Nat → Int32} {β : Nat → Int32} {τ : Nat → Int32} {ω : Nat → Int32} (X : CX G (AA G) p s m meth c RX10 cX10_load 3) (hret : meth.sig.returnType = (some .int)) (hM : MT G) (hr_36 : h 36 = κ) (hr_37 : h 37 = σ) (hr_38 : h 38 = α) (hr_39 : h 39 = β) (hr_40 : h 40 = τ) (hr_41 : h 41 = ω) (hN : TI (va_up κ 3 0)) (Z : Int32 × (Nat → Int32) × (Nat → Int32) × (Nat → Int32) × (Nat → Int32) × (Nat → Int32)) : ∀ (fu : Nat) (k : Int32) (κ1 : Nat → Int32) (σ1 : Nat → Int32) (α1 : Nat → Int32) (β1 : Nat → Int32) (ω1 : Nat → Int32) (re : Int32), (0 ≤ k.toInt) → ((16 : Int32).toInt - k.toInt).toNat < fu → L_X10_load_172 fu κ σ α β τ ω k κ1 σ1 α1 β1 ω1 re = Z → VV G (AA G) p l e { frames := 4, cells := 0, slots := 0, locals := 88 } s m args below meth c 0 0 (MQ below (QC G (va_up (va_up (va_up (va_up (va_up h 36 Z.2.1) 37 Z.2.2.1) 38 Z.2.2.2.1) 39 Z.2.2.2.2.1) 41 Z.2.2.2.2.2) (some (.int Z.1))) args s 0 0 (AA G)) 3 (va_up (va_up (va_up (va_up (va_up h 36 κ1) 37 σ1) 38 α1) 39 β1) 41 ω1) 172 [(0, .ref (gA G 36 0)), (1, .int re), (2, .int k)] [] := by
  intro fu
  induction fu with
  | zero =>
    intro k κ1 σ1 α1 β1 ω1 re hk hm
    exact absurd hm (Nat.not_lt_zero _)
  | succ fu ih =>
    intro k κ1 σ1 α1 β1 ω1 re hk hm hZ
    have hG := X.2.2.2.2.2.1
    have hT_36 : gT G 36 = 9 := hM 36 (by decide) (by decide)
    have hT_37 : gT G 37 = 10 := hM 37 (by decide) (by decide)
    have hT_38 : gT G 38 = 10 := hM 38 (by decide) (by decide)
    have hT_39 : gT G 39 = 11 := hM 39 (by decide) (by decide)
    have hT_40 : gT G 40 = 12 := hM 40 (by decide) (by decide)
    have hT_41 : gT G 41 = 13 := hM 41 (by decide) (by decide)
    refine q_iload_n X 2 dX10_load_172 rfl ?_
    refine q_bipush (v := 16) X dX10_load_173 (by decide) ?_
    refine q_icmp_ge (tgt := 199) X dX10_load_175 (by decide) (fun c22 => ?_) (fun c22 => ?_)
    · skip
      refine q_aload_n X 0 dX10_load_199 rfl ?_
      refine q_iconst (v := 0) X dX10_load_200 (by decide) ?_
      obtain ⟨r23, e_r23⟩ : ∃ z : Nat → Int32, z = va_up κ1 2 0 := ⟨_, rfl⟩
      refine q_put (fk := 6) (h2 := va_up (va_up (va_up (va_up (va_up h 37 σ1) 38 α1) 39 β1) 41 ω1) 36 r23) X cf_X10 (ac_9_0 hT_36) (by decide) fl_X10_65 rfl rfl (by rw [hT_36]; rfl) rfl rfl rfl dX10_load_201 ((va_up_ne _ _ (by decide)).trans ((va_up_ne _ _ (by decide)).trans ((va_up_ne _ _ (by decide)).trans ((va_up_ne _ _ (by decide)).trans (va_up_self _ _ _))))) (by rw [← e_r23]; funext x; simp only [va_up]; (repeat' split) <;> first | rfl | omega) ?_
      refine q_iload_n X 1 dX10_load_204 rfl ?_
      have E : Z = (re, r23, σ1, α1, β1, ω1) := by rw [← hZ, L_X10_load_172, if_pos c22]; (try dsimp only); (try rw [← e_r23]); done
      exact q_iret X hret dX10_load_205 (by rw [E]) (by rw [E]; (funext x; simp only [va_up]; (repeat' split) <;> first | rfl | omega | (subst_vars; rfl) | (subst_vars; assumption)))
    · skip
      refine q_aload_n X 0 dX10_load_178 rfl ?_
      refine q_get (fk := 1) (v := .ref (gA G 37 0)) X cf_X10 (ac_9_0 hT_36) (by decide) fl_X10_7 rfl rfl dX10_load_179 rfl ?_
      refine q_bipush (v := 33) X dX10_load_182 (by decide) ?_
      refine q_iload_n X 2 dX10_load_184 rfl ?_
      refine q_iadd X dX10_load_185 ?_
      refine q_aload_n X 0 dX10_load_186 rfl ?_
      refine q_get (fk := 9) (v := .ref (gA G 41 0)) X cf_X10 (ac_9_0 hT_36) (by decide) fl_X10_22 rfl rfl dX10_load_187 rfl ?_
      refine q_iload_n X 2 dX10_load_190 rfl ?_
      refine q_iald (x := ω1 (Int32.toNatClampNeg k)) X (ac_13_0 hT_41) (by rw [hT_41]; exact vin_i hk (nle c22)) dX10_load_191 (va_up_self _ _ _) (by rw [Nat.zero_add, Nat.one_mul]) ?_
      obtain ⟨r24, e_r24⟩ : ∃ z : Nat → Int32, z = va_up σ1 (Int32.toNatClampNeg (33 + k)) (ω1 (Int32.toNatClampNeg k)) := ⟨_, rfl⟩
      refine q_iast (h2 := va_up (va_up (va_up (va_up (va_up h 36 κ1) 38 α1) 39 β1) 41 ω1) 37 r24) X (ac_10_0 hT_37) (by rw [hT_37]; exact ix_33k hk c22) dX10_load_192 ((va_up_ne _ _ (by decide)).trans ((va_up_ne _ _ (by decide)).trans ((va_up_ne _ _ (by decide)).trans (va_up_self _ _ _)))) (by rw [Nat.zero_add, Nat.one_mul, ← e_r24]; funext x; simp only [va_up]; (repeat' split) <;> first | rfl | omega) ?_
      refine q_iinc (v := k + 1) (lv' := [(2, .int (k + 1)), (0, .ref (gA G 36 0)), (1, .int re)]) X 2 dX10_load_193 rfl rfl (by decide) rfl ?_
      refine q_goto (tgt := 172) X dX10_load_196 (by decide) ?_
      refine q_sub (lv2 := [(0, .ref (gA G 36 0)), (1, .int re), (2, .int (k + 1))]) [1, 2, 0] rfl ?_
      refine q_eq (h2 := va_up (va_up (va_up (va_up (va_up h 36 κ1) 37 r24) 38 α1) 39 β1) 41 ω1) (by funext x; simp only [va_up]; (repeat' split) <;> first | rfl | omega) rfl ?_
      have E : L_X10_load_172 fu κ σ α β τ ω (k + 1) κ1 r24 α1 β1 ω1 re = Z := by rw [← hZ, L_X10_load_172, if_neg c22]; (try dsimp only); (try rw [← e_r24]); done
      exact ih (k + 1) κ1 r24 α1 β1 ω1 re (by exact stp c22 hk) (by exact ms_up c22 hm) E
set_option maxRecDepth 100000 in
set_option maxHeartbeats 4000000 in
theorem w_X10_load_127 {G : Geo} {p : Program} {l : Launch} {e : Env} {s : State} {m : MethodId} {args : Array Value} {below : List Frame} {meth : Method} {c : Code} {h : Hp} {κ : Nat → Int32} {σ : Nat → Int32} {α : Nat → Int32} {β : Nat → Int32} {τ : Nat → Int32} {ω : Nat → Int32} (X : CX G (AA G) p s m meth c RX10 cX10_load 3) (hret : meth.sig.returnType = (some .int)) (hM : MT G) (hr_36 : h 36 = κ) (hr_37 : h 37 = σ) (hr_38 : h 38 = α) (hr_39 : h 39 = β) (hr_40 : h 40 = τ) (hr_41 : h 41 = ω) (hN : TI (va_up κ 3 0)) (Z : Int32 × (Nat → Int32) × (Nat → Int32) × (Nat → Int32) × (Nat → Int32) × (Nat → Int32)) : ∀ (fu : Nat) (k : Int32) (κ1 : Nat → Int32) (σ1 : Nat → Int32) (α1 : Nat → Int32) (ω1 : Nat → Int32) (re : Int32), (0 ≤ k.toInt) → (TI κ1) → ((16 : Int32).toInt - k.toInt).toNat < fu → L_X10_load_127 fu κ σ α β τ ω k κ1 σ1 α1 ω1 re = Z → VV G (AA G) p l e { frames := 4, cells := 0, slots := 0, locals := 88 } s m args below meth c 0 0 (MQ below (QC G (va_up (va_up (va_up (va_up (va_up h 36 Z.2.1) 37 Z.2.2.1) 38 Z.2.2.2.1) 39 Z.2.2.2.2.1) 41 Z.2.2.2.2.2) (some (.int Z.1))) args s 0 0 (AA G)) 3 (va_up (va_up (va_up (va_up h 36 κ1) 37 σ1) 38 α1) 41 ω1) 127 [(0, .ref (gA G 36 0)), (1, .int re), (2, .int k)] [] := by
  intro fu
  induction fu with
  | zero =>
    intro k κ1 σ1 α1 ω1 re hk hN1 hm
    exact absurd hm (Nat.not_lt_zero _)
  | succ fu ih =>
    intro k κ1 σ1 α1 ω1 re hk hN1 hm hZ
    have hG := X.2.2.2.2.2.1
    have hT_36 : gT G 36 = 9 := hM 36 (by decide) (by decide)
    have hT_37 : gT G 37 = 10 := hM 37 (by decide) (by decide)
    have hT_38 : gT G 38 = 10 := hM 38 (by decide) (by decide)
    have hT_39 : gT G 39 = 11 := hM 39 (by decide) (by decide)
    have hT_40 : gT G 40 = 12 := hM 40 (by decide) (by decide)
    have hT_41 : gT G 41 = 13 := hM 41 (by decide) (by decide)
    refine q_iload_n X 2 dX10_load_127 rfl ?_
    refine q_bipush (v := 16) X dX10_load_128 (by decide) ?_
    refine q_icmp_ge (tgt := 154) X dX10_load_130 (by decide) (fun c16 => ?_) (fun c16 => ?_)
    · skip
      refine q_aload_n X 0 dX10_load_154 rfl ?_
      obtain ⟨r17, e_r17⟩ : ∃ z : Nat → Int32, z = S_X10_release σ1 α1 := ⟨_, rfl⟩
      refine q_callV (h1 := _) (rest := []) (As := []) X (c_X10_release (l := l) hG (σ := σ1) (α := α1)   hM ((va_up_ne _ _ (by decide)).trans ((va_up_ne _ _ (by decide)).trans (va_up_self _ _ _))) ((va_up_ne _ _ (by decide)).trans (va_up_self _ _ _))) mf_X10_release mv_X10_release cf_X10 rfl (ac_9_0 hT_36) lk_X10_92 rfl ⟨by decide, by decide⟩ ⟨Nat.le_refl _, Nat.le_refl _⟩ rfl (Nat.le_of_ble_eq_true rfl) dX10_load_155 (st2 := []) rfl ?_
      refine q_eq (h2 := va_up (va_up (va_up (va_up h 36 κ1) 38 α1) 41 ω1) 37 r17) (by rw [← e_r17]; funext x; simp only [va_up]; (repeat' split) <;> first | rfl | omega) rfl ?_
      refine q_aload_n X 0 dX10_load_158 rfl ?_
      obtain ⟨r18, e_r18⟩ : ∃ z : Nat → Int32, z = (S_X10_act κ1 r17 β).1 := ⟨_, rfl⟩
      obtain ⟨r19, e_r19⟩ : ∃ z : Nat → Int32, z = (S_X10_act κ1 r17 β).2 := ⟨_, rfl⟩
      refine q_callV (h1 := _) (rest := []) (As := []) X (c_X10_act (l := l) hG (κ := κ1) (σ := r17) (β := β)   hM ((va_up_ne _ _ (by decide)).trans ((va_up_ne _ _ (by decide)).trans ((va_up_ne _ _ (by decide)).trans (va_up_self _ _ _)))) (va_up_self _ _ _) ((va_up_ne _ _ (by decide)).trans ((va_up_ne _ _ (by decide)).trans ((va_up_ne _ _ (by decide)).trans ((va_up_ne _ _ (by decide)).trans (hr_39))))) hN1.1) mf_X10_act mv_X10_act cf_X10 rfl (ac_9_0 hT_36) lk_X10_36 rfl ⟨by decide, by decide⟩ ⟨Nat.le_refl _, Nat.le_refl _⟩ rfl (Nat.le_of_ble_eq_true rfl) dX10_load_159 (st2 := []) rfl ?_
      refine q_eq (h2 := va_up (va_up (va_up (va_up (va_up h 38 α1) 41 ω1) 37 r17) 36 r18) 39 r19) (by rw [← e_r18, ← e_r19]; (funext x; simp only [va_up]; (repeat' split) <;> first | rfl | omega)) rfl ?_
      refine q_aload_n X 0 dX10_load_162 rfl ?_
      refine q_get (fk := 1) (v := .ref (gA G 37 0)) X cf_X10 (ac_9_0 hT_36) (by decide) fl_X10_7 rfl rfl dX10_load_163 rfl ?_
      refine q_bipush (v := 32) X dX10_load_166 (by decide) ?_
      refine q_iload_n X 1 dX10_load_168 rfl ?_
      obtain ⟨r20, e_r20⟩ : ∃ z : Nat → Int32, z = va_up r17 32 re := ⟨_, rfl⟩
      refine q_iast (h2 := va_up (va_up (va_up (va_up (va_up h 38 α1) 41 ω1) 36 r18) 39 r19) 37 r20) X (ac_10_0 hT_37) (by rw [hT_37]; exact vin_lit (by decide)) dX10_load_169 ((va_up_ne _ _ (by decide)).trans ((va_up_ne _ _ (by decide)).trans (va_up_self _ _ _))) (by rw [show 0 + 1 * Int32.toNatClampNeg 32 = 32 from rfl, ← e_r20]; funext x; simp only [va_up]; (repeat' split) <;> first | rfl | omega) ?_
      refine q_iconst (v := 0) X dX10_load_170 (by decide) ?_
      refine q_istore_n (lv' := [(2, .int 0), (0, .ref (gA G 36 0)), (1, .int re)]) X dX10_load_171 (by decide) rfl ?_
      refine q_sub (lv2 := [(0, .ref (gA G 36 0)), (1, .int re), (2, .int 0)]) [1, 2, 0] rfl ?_
      refine q_eq (h2 := va_up (va_up (va_up (va_up (va_up h 36 r18) 37 r20) 38 α1) 39 r19) 41 ω1) (by funext x; simp only [va_up]; (repeat' split) <;> first | rfl | omega) rfl ?_
      have E : L_X10_load_172 17 κ σ α β τ ω 0 r18 r20 α1 r19 ω1 re = Z := by rw [← hZ, L_X10_load_127, if_pos c16]; (try dsimp only); (try rw [← e_r17]); (try rw [← e_r18]); (try rw [← e_r19]); (try rw [← e_r20]); done
      exact w_X10_load_172 X hret hM hr_36 hr_37 hr_38 hr_39 hr_40 hr_41 hN Z 17 0 r18 r20 α1 r19 ω1 re (by decide) (by decide) E
    · skip
      refine q_aload_n X 0 dX10_load_133 rfl ?_
      refine q_get (fk := 9) (v := .ref (gA G 41 0)) X cf_X10 (ac_9_0 hT_36) (by decide) fl_X10_22 rfl rfl dX10_load_134 rfl ?_
      refine q_iload_n X 2 dX10_load_137 rfl ?_
      refine q_aload_n X 0 dX10_load_138 rfl ?_
      refine q_get (fk := 1) (v := .ref (gA G 37 0)) X cf_X10 (ac_9_0 hT_36) (by decide) fl_X10_7 rfl rfl dX10_load_139 rfl ?_
      refine q_bipush (v := 33) X dX10_load_142 (by decide) ?_
      refine q_iload_n X 2 dX10_load_144 rfl ?_
      refine q_iadd X dX10_load_145 ?_
      refine q_iald (x := σ1 (Int32.toNatClampNeg (33 + k))) X (ac_10_0 hT_37) (by rw [hT_37]; exact ix_33k hk c16) dX10_load_146 ((va_up_ne _ _ (by decide)).trans ((va_up_ne _ _ (by decide)).trans (va_up_self _ _ _))) (by rw [Nat.zero_add, Nat.one_mul]) ?_
      obtain ⟨r21, e_r21⟩ : ∃ z : Nat → Int32, z = va_up ω1 (Int32.toNatClampNeg k) (σ1 (Int32.toNatClampNeg (33 + k))) := ⟨_, rfl⟩
      refine q_iast (h2 := va_up (va_up (va_up (va_up h 36 κ1) 37 σ1) 38 α1) 41 r21) X (ac_13_0 hT_41) (by rw [hT_41]; exact vin_i hk (nle c16)) dX10_load_147 (va_up_self _ _ _) (by rw [Nat.zero_add, Nat.one_mul, e_r21, va_up_up]) ?_
      refine q_iinc (v := k + 1) (lv' := [(2, .int (k + 1)), (0, .ref (gA G 36 0)), (1, .int re)]) X 2 dX10_load_148 rfl rfl (by decide) rfl ?_
      refine q_goto (tgt := 127) X dX10_load_151 (by decide) ?_
      refine q_sub (lv2 := [(0, .ref (gA G 36 0)), (1, .int re), (2, .int (k + 1))]) [1, 2, 0] rfl ?_
      have E : L_X10_load_127 fu κ σ α β τ ω (k + 1) κ1 σ1 α1 r21 re = Z := by rw [← hZ, L_X10_load_127, if_neg c16]; (try dsimp only); (try rw [← e_r21]); done
      exact ih (k + 1) κ1 σ1 α1 r21 re (by exact stp c16 hk) (by exact hN1) (by exact ms_up c16 hm) E
set_option maxRecDepth 100000 in
set_option maxHeartbeats 4000000 in
theorem w_X10_load_32 {G : Geo} {p : Program} {l : Launch} {e : Env} {s : State} {m : MethodId} {args : Array Value} {below : List Frame} {meth : Method} {c : Code} {h : Hp} {κ : Nat → Int32} {σ : Nat → Int32} {α : Nat → Int32} {β : Nat → Int32} {τ : Nat → Int32} {ω : Nat → Int32} (X : CX G (AA G) p s m meth c RX10 cX10_load 3) (hret : meth.sig.returnType = (some .int)) (hM : MT G) (hr_36 : h 36 = κ) (hr_37 : h 37 = σ) (hr_38 : h 38 = α) (hr_39 : h 39 = β) (hr_40 : h 40 = τ) (hr_41 : h 41 = ω) (hN : TI (va_up κ 3 0)) (Z : Int32 × (Nat → Int32) × (Nat → Int32) × (Nat → Int32) × (Nat → Int32) × (Nat → Int32)) : ∀ (fu : Nat) (κ1 : Nat → Int32) (σ1 : Nat → Int32) (α1 : Nat → Int32), (TI κ1) → (0 ≤ (σ1 32).toInt ∧ (σ1 32).toInt ≤ 8) → ((κ1 2).toInt - (κ1 3).toInt).toNat < fu → L_X10_load_32 fu κ σ α β τ ω κ1 σ1 α1 = Z → VV G (AA G) p l e { frames := 4, cells := 0, slots := 0, locals := 88 } s m args below meth c 0 0 (MQ below (QC G (va_up (va_up (va_up (va_up (va_up h 36 Z.2.1) 37 Z.2.2.1) 38 Z.2.2.2.1) 39 Z.2.2.2.2.1) 41 Z.2.2.2.2.2) (some (.int Z.1))) args s 0 0 (AA G)) 3 (va_up (va_up (va_up h 36 κ1) 37 σ1) 38 α1) 32 [(0, .ref (gA G 36 0))] [] := by
  intro fu
  induction fu with
  | zero =>
    intro κ1 σ1 α1 hN1 hs1 hm
    exact absurd hm (Nat.not_lt_zero _)
  | succ fu ih =>
    intro κ1 σ1 α1 hN1 hs1 hm hZ
    have hG := X.2.2.2.2.2.1
    have hT_36 : gT G 36 = 9 := hM 36 (by decide) (by decide)
    have hT_37 : gT G 37 = 10 := hM 37 (by decide) (by decide)
    have hT_38 : gT G 38 = 10 := hM 38 (by decide) (by decide)
    have hT_39 : gT G 39 = 11 := hM 39 (by decide) (by decide)
    have hT_40 : gT G 40 = 12 := hM 40 (by decide) (by decide)
    have hT_41 : gT G 41 = 13 := hM 41 (by decide) (by decide)
    refine q_aload_n X 0 dX10_load_32 rfl ?_
    refine q_geti (fk := 8) (x := κ1 4) X cf_X10 (ac_9_0 hT_36) (by decide) fl_X10_78 rfl rfl dX10_load_33 ((va_up_ne _ _ (by decide)).trans ((va_up_ne _ _ (by decide)).trans (va_up_self _ _ _))) rfl ?_
    refine q_ldc X kc_X10_81 dX10_load_36 ?_
    refine q_icmp_ne (tgt := 96) X dX10_load_38 (by decide) (fun c7 => ?_) (fun c7 => ?_)
    · skip
      refine q_aload_n X 0 dX10_load_96 rfl ?_
      refine q_get (fk := 1) (v := .ref (gA G 37 0)) X cf_X10 (ac_9_0 hT_36) (by decide) fl_X10_7 rfl rfl dX10_load_97 rfl ?_
      refine q_bipush (v := 32) X dX10_load_100 (by decide) ?_
      refine q_iald (x := σ1 32) X (ac_10_0 hT_37) (by rw [hT_37]; exact vin_lit (by decide)) dX10_load_102 ((va_up_ne _ _ (by decide)).trans (va_up_self _ _ _)) rfl ?_
      refine q_istore_n (lv' := [(1, .int (σ1 32)), (0, .ref (gA G 36 0))]) X dX10_load_103 (by decide) rfl ?_
      refine q_aload_n X 1 dX10_load_104 rfl ?_
      refine q_geti (fk := 8) (x := κ1 4) X cf_X10 (ac_9_0 hT_36) (by decide) fl_X10_78 rfl rfl dX10_load_105 ((va_up_ne _ _ (by decide)).trans ((va_up_ne _ _ (by decide)).trans (va_up_self _ _ _))) rfl ?_
      refine q_ldc X kc_X10_81 dX10_load_108 ?_
      refine q_icmp_eq (tgt := 125) X dX10_load_110 (by decide) (fun q => absurd q c7) (fun _ => ?_)
      refine q_aload_n X 1 dX10_load_113 rfl ?_
      obtain ⟨r8, e_r8⟩ : ∃ z : Nat → Int32, z = S_X10_release σ1 α1 := ⟨_, rfl⟩
      refine q_callV (h1 := _) (rest := []) (As := []) X (c_X10_release (l := l) hG (σ := σ1) (α := α1)   hM ((va_up_ne _ _ (by decide)).trans (va_up_self _ _ _)) (va_up_self _ _ _)) mf_X10_release mv_X10_release cf_X10 rfl (ac_9_0 hT_36) lk_X10_92 rfl ⟨by decide, by decide⟩ ⟨Nat.le_refl _, Nat.le_refl _⟩ rfl (Nat.le_of_ble_eq_true rfl) dX10_load_114 (st2 := []) rfl ?_
      refine q_eq (h2 := va_up (va_up (va_up h 36 κ1) 38 α1) 37 r8) (by rw [← e_r8]; funext x; simp only [va_up]; (repeat' split) <;> first | rfl | omega) rfl ?_
      refine q_ldc X kc_X10_95 dX10_load_117 ?_
      refine q_aload_n X 1 dX10_load_119 rfl ?_
      refine q_geti (fk := 8) (x := κ1 4) X cf_X10 (ac_9_0 hT_36) (by decide) fl_X10_78 rfl rfl dX10_load_120 ((va_up_ne _ _ (by decide)).trans ((va_up_ne _ _ (by decide)).trans (va_up_self _ _ _))) rfl ?_
      refine q_isub X dX10_load_123 ?_
      have E : Z = ((-200000) - (κ1 4), κ1, r8, α1, β, ω) := by rw [← hZ, L_X10_load_32, if_neg c7]; (try dsimp only); (try rw [← e_r8]); done
      exact q_iret X hret dX10_load_124 (by rw [E]) (by rw [E]; (funext x; simp only [va_up]; (repeat' split) <;> first | rfl | omega | (subst_vars; rfl) | (subst_vars; assumption)))
    · skip
      refine q_aload_n X 0 dX10_load_41 rfl ?_
      refine q_geti (fk := 7) (x := κ1 3) X cf_X10 (ac_9_0 hT_36) (by decide) fl_X10_68 rfl rfl dX10_load_42 ((va_up_ne _ _ (by decide)).trans ((va_up_ne _ _ (by decide)).trans (va_up_self _ _ _))) rfl ?_
      refine q_aload_n X 0 dX10_load_45 rfl ?_
      refine q_geti (fk := 6) (x := κ1 2) X cf_X10 (ac_9_0 hT_36) (by decide) fl_X10_65 rfl rfl dX10_load_46 ((va_up_ne _ _ (by decide)).trans ((va_up_ne _ _ (by decide)).trans (va_up_self _ _ _))) rfl ?_
      refine q_icmp_ge (tgt := 96) X dX10_load_49 (by decide) (fun c9 => ?_) (fun c9 => ?_)
      · skip
        refine q_aload_n X 0 dX10_load_96 rfl ?_
        refine q_get (fk := 1) (v := .ref (gA G 37 0)) X cf_X10 (ac_9_0 hT_36) (by decide) fl_X10_7 rfl rfl dX10_load_97 rfl ?_
        refine q_bipush (v := 32) X dX10_load_100 (by decide) ?_
        refine q_iald (x := σ1 32) X (ac_10_0 hT_37) (by rw [hT_37]; exact vin_lit (by decide)) dX10_load_102 ((va_up_ne _ _ (by decide)).trans (va_up_self _ _ _)) rfl ?_
        refine q_istore_n (lv' := [(1, .int (σ1 32)), (0, .ref (gA G 36 0))]) X dX10_load_103 (by decide) rfl ?_
        refine q_aload_n X 1 dX10_load_104 rfl ?_
        refine q_geti (fk := 8) (x := κ1 4) X cf_X10 (ac_9_0 hT_36) (by decide) fl_X10_78 rfl rfl dX10_load_105 ((va_up_ne _ _ (by decide)).trans ((va_up_ne _ _ (by decide)).trans (va_up_self _ _ _))) rfl ?_
        refine q_ldc X kc_X10_81 dX10_load_108 ?_
        refine q_icmp_eq (tgt := 125) X dX10_load_110 (by decide) (fun _ => ?_) (fun q => absurd c7 q)
        refine q_iconst (v := 0) X dX10_load_125 (by decide) ?_
        refine q_istore_n (lv' := [(2, .int 0), (1, .int (σ1 32)), (0, .ref (gA G 36 0))]) X dX10_load_126 (by decide) rfl ?_
        refine q_sub (lv2 := [(0, .ref (gA G 36 0)), (1, .int (σ1 32)), (2, .int 0)]) [2, 1, 0] rfl ?_
        refine q_eq (h2 := va_up (va_up (va_up (va_up h 36 κ1) 37 σ1) 38 α1) 41 ω) (va_up_id2 ((va_up_ne _ _ (by decide)).trans ((va_up_ne _ _ (by decide)).trans ((va_up_ne _ _ (by decide)).trans (hr_41))))).symm rfl ?_
        have E : L_X10_load_127 17 κ σ α β τ ω 0 κ1 σ1 α1 ω (σ1 32) = Z := by rw [← hZ, L_X10_load_32, if_pos c7, if_pos c9]; (try dsimp only);  done
        exact w_X10_load_127 X hret hM hr_36 hr_37 hr_38 hr_39 hr_40 hr_41 hN Z 17 0 κ1 σ1 α1 ω (σ1 32) (by decide) (by exact hN1) (by decide) E
      · skip
        refine q_aload_n X 0 dX10_load_52 rfl ?_
        refine q_aload_n X 0 dX10_load_53 rfl ?_
        refine q_get (fk := 1) (v := .ref (gA G 37 0)) X cf_X10 (ac_9_0 hT_36) (by decide) fl_X10_7 rfl rfl dX10_load_54 rfl ?_
        refine q_bipush (v := 32) X dX10_load_57 (by decide) ?_
        refine q_iald (x := σ1 32) X (ac_10_0 hT_37) (by rw [hT_37]; exact vin_lit (by decide)) dX10_load_59 ((va_up_ne _ _ (by decide)).trans (va_up_self _ _ _)) rfl ?_
        suffices hJ12 : ∀ (m11 : Int32), m11 = (if (σ1 32) = 0 then ((-1)) else (σ1 (Int32.toNatClampNeg ((33 + (2 * (σ1 32))) - 2)))) → VV G (AA G) p l e { frames := 4, cells := 0, slots := 0, locals := 88 } s m args below meth c 0 0 (MQ below (QC G (va_up (va_up (va_up (va_up (va_up h 36 Z.2.1) 37 Z.2.2.1) 38 Z.2.2.2.1) 39 Z.2.2.2.2.1) 41 Z.2.2.2.2.2) (some (.int Z.1))) args s 0 0 (AA G)) 3 (va_up (va_up (va_up h 36 κ1) 37 σ1) 38 α1) 86 [(0, .ref (gA G 36 0))] [.int m11, .ref (gA G 36 0)] by
          refine q_if_ne (tgt := 67) X dX10_load_60 (by decide) (fun c10 => ?_) (fun c10 => ?_)
          · skip
            refine q_aload_n X 0 dX10_load_67 rfl ?_
            refine q_get (fk := 1) (v := .ref (gA G 37 0)) X cf_X10 (ac_9_0 hT_36) (by decide) fl_X10_7 rfl rfl dX10_load_68 rfl ?_
            refine q_bipush (v := 33) X dX10_load_71 (by decide) ?_
            refine q_iconst (v := 2) X dX10_load_73 (by decide) ?_
            refine q_aload_n X 0 dX10_load_74 rfl ?_
            refine q_get (fk := 1) (v := .ref (gA G 37 0)) X cf_X10 (ac_9_0 hT_36) (by decide) fl_X10_7 rfl rfl dX10_load_75 rfl ?_
            refine q_bipush (v := 32) X dX10_load_78 (by decide) ?_
            refine q_iald (x := σ1 32) X (ac_10_0 hT_37) (by rw [hT_37]; exact vin_lit (by decide)) dX10_load_80 ((va_up_ne _ _ (by decide)).trans (va_up_self _ _ _)) rfl ?_
            refine q_imul X dX10_load_81 ?_
            refine q_iadd X dX10_load_82 ?_
            refine q_iconst (v := 2) X dX10_load_83 (by decide) ?_
            refine q_isub X dX10_load_84 ?_
            refine q_iald (x := σ1 (Int32.toNatClampNeg ((33 + (2 * (σ1 32))) - 2))) X (ac_10_0 hT_37) (by rw [hT_37]; exact (ix_last ⟨by decide, by decide⟩ (p1 hs1 c10)).1) dX10_load_85 ((va_up_ne _ _ (by decide)).trans (va_up_self _ _ _)) (by rw [Nat.zero_add, Nat.one_mul]) ?_
            refine q_sub (lv2 := [(0, .ref (gA G 36 0))]) [0] rfl ?_
            exact hJ12 (σ1 (Int32.toNatClampNeg ((33 + (2 * (σ1 32))) - 2))) (by exact ((if_neg c10).trans rfl).symm)
          · skip
            refine q_iconst (v := (-1)) X dX10_load_63 (by decide) ?_
            refine q_goto (tgt := 86) X dX10_load_64 (by decide) ?_
            refine q_sub (lv2 := [(0, .ref (gA G 36 0))]) [0] rfl ?_
            exact hJ12 (-1) (by exact ((if_pos c10).trans rfl).symm)
        intro m11 e_m11
        obtain ⟨r13, e_r13⟩ : ∃ z : Nat → Int32, z = (S_X10_readPoint κ1 σ1 τ m11).1 := ⟨_, rfl⟩
        have i_r13 : TI r13 := by rw [e_r13]; exact (read_f hN1 c9 hs1).1
        obtain ⟨r14, e_r14⟩ : ∃ z : Nat → Int32, z = (S_X10_readPoint κ1 σ1 τ m11).2 := ⟨_, rfl⟩
        refine q_callV (h1 := _) (rest := []) (As := [.int m11]) X (c_X10_readPoint (l := l) hG (κ := κ1) (σ := σ1) (τ := τ)  m11 hM ((va_up_ne _ _ (by decide)).trans ((va_up_ne _ _ (by decide)).trans (va_up_self _ _ _))) ((va_up_ne _ _ (by decide)).trans (va_up_self _ _ _)) ((va_up_ne _ _ (by decide)).trans ((va_up_ne _ _ (by decide)).trans ((va_up_ne _ _ (by decide)).trans (hr_40)))) hN1 hs1) mf_X10_readPoint mv_X10_readPoint cf_X10 rfl (ac_9_0 hT_36) lk_X10_88 rfl ⟨by decide, by decide⟩ ⟨Nat.le_refl _, Nat.le_refl _⟩ rfl (Nat.le_of_ble_eq_true rfl) dX10_load_86 (st2 := []) rfl ?_
        refine q_eq (h2 := va_up (va_up (va_up h 38 α1) 36 r13) 37 r14) (by rw [← e_r13, ← e_r14]; (funext x; simp only [va_up]; (repeat' split) <;> first | rfl | omega)) rfl ?_
        refine q_aload_n X 0 dX10_load_89 rfl ?_
        obtain ⟨r15, e_r15⟩ : ∃ z : Nat → Int32, z = S_X10_skip r13 τ := ⟨_, rfl⟩
        have i_r15 : TI r15 := by rw [e_r15]; exact TI_X10_skip i_r13
        refine q_callV (h1 := _) (rest := []) (As := []) X (c_X10_skip (l := l) hG (κ := r13) (τ := τ)   hM ((va_up_ne _ _ (by decide)).trans (va_up_self _ _ _)) ((va_up_ne _ _ (by decide)).trans ((va_up_ne _ _ (by decide)).trans ((va_up_ne _ _ (by decide)).trans (hr_40)))) i_r13) mf_X10_skip mv_X10_skip cf_X10 rfl (ac_9_0 hT_36) lk_X10_75 rfl ⟨by decide, by decide⟩ ⟨Nat.le_refl _, Nat.le_refl _⟩ rfl (Nat.le_of_ble_eq_true rfl) dX10_load_90 (st2 := []) rfl ?_
        refine q_eq (h2 := va_up (va_up (va_up h 38 α1) 37 r14) 36 r15) (by rw [← e_r15]; funext x; simp only [va_up]; (repeat' split) <;> first | rfl | omega) rfl ?_
        refine q_goto (tgt := 32) X dX10_load_93 (by decide) ?_
        refine q_sub (lv2 := [(0, .ref (gA G 36 0))]) [0] rfl ?_
        refine q_eq (h2 := va_up (va_up (va_up h 36 r15) 37 r14) 38 α1) (by funext x; simp only [va_up]; (repeat' split) <;> first | rfl | omega) rfl ?_
        have E : L_X10_load_32 fu κ σ α β τ ω r15 r14 α1 = Z := by rw [← hZ, L_X10_load_32, if_pos c7, if_neg c9]; (try dsimp only); (try rw [← e_m11]); (try rw [← e_r13]); (try rw [← e_r14]); (try rw [← e_r15]); done
        exact ih r15 r14 α1 (by exact i_r15) (by rw [e_r14]; exact (read_f hN1 c9 hs1).2.2.2) (by rw [e_r15, e_r13]; exact ld_dec hN1 c9 hs1 hm) E
set_option maxRecDepth 100000 in
set_option maxHeartbeats 4000000 in
theorem c_X10_load {G : Geo} {l : Launch} (hG : GOK G) {h : Hp} {κ : Nat → Int32} {σ : Nat → Int32} {α : Nat → Int32} {β : Nat → Int32} {τ : Nat → Int32} {ω : Nat → Int32} (hM : MT G) (hr_36 : h 36 = κ) (hr_37 : h 37 = σ) (hr_38 : h 38 = α) (hr_39 : h 39 = β) (hr_40 : h 40 = τ) (hr_41 : h 41 = ω) (hN : TI (va_up κ 3 0)) : CM G l yX10_load cX10_load 3 (some .int) 4 88 [.ref (gA G 36 0)] h (va_up (va_up (va_up (va_up (va_up h 36 ((S_X10_load κ σ α β τ ω).2.1)) 37 ((S_X10_load κ σ α β τ ω).2.2.1)) 38 ((S_X10_load κ σ α β τ ω).2.2.2.1)) 39 ((S_X10_load κ σ α β τ ω).2.2.2.2.1)) 41 ((S_X10_load κ σ α β τ ω).2.2.2.2.2)) (some (.int ((S_X10_load κ σ α β τ ω).1))) := by
  obtain ⟨Z, hZ⟩ : ∃ Z, S_X10_load κ σ α β τ ω = Z := ⟨_, rfl⟩
  rw [hZ]
  refine q_enter hG mf_X10_load (Nat.le_of_ble_eq_true rfl) ?_
  intro p e s m below meth c X hret
  have hT_36 : gT G 36 = 9 := hM 36 (by decide) (by decide)
  have hT_37 : gT G 37 = 10 := hM 37 (by decide) (by decide)
  have hT_38 : gT G 38 = 10 := hM 38 (by decide) (by decide)
  have hT_39 : gT G 39 = 11 := hM 39 (by decide) (by decide)
  have hT_40 : gT G 40 = 12 := hM 40 (by decide) (by decide)
  have hT_41 : gT G 41 = 13 := hM 41 (by decide) (by decide)
  refine q_lv (lv2 := [(0, .ref (gA G 36 0))]) rfl ?_
  refine q_aload_n X 0 dX10_load_0 rfl ?_
  refine q_iconst (v := 0) X dX10_load_1 (by decide) ?_
  obtain ⟨r1, e_r1⟩ : ∃ z : Nat → Int32, z = va_up κ 0 0 := ⟨_, rfl⟩
  have i_r1 : TI (va_up r1 3 0) := by rw [e_r1]; exact hN
  refine q_put (fk := 0) (h2 := va_up h 36 r1) X cf_X10 (ac_9_0 hT_36) (by decide) fl_X10_25 rfl rfl (by rw [hT_36]; rfl) rfl rfl rfl dX10_load_2 (hr_36) (by rw [e_r1]) ?_
  refine q_aload_n X 0 dX10_load_5 rfl ?_
  obtain ⟨r2, e_r2⟩ : ∃ z : Nat → Int32, z = S_X10_hold σ α := ⟨_, rfl⟩
  refine q_callV (h1 := _) (rest := []) (As := []) X (c_X10_hold (l := l) hG (σ := σ) (α := α)   hM ((va_up_ne _ _ (by decide)).trans (hr_37)) ((va_up_ne _ _ (by decide)).trans (hr_38))) mf_X10_hold mv_X10_hold cf_X10 rfl (ac_9_0 hT_36) lk_X10_85 rfl ⟨by decide, by decide⟩ ⟨Nat.le_refl _, Nat.le_refl _⟩ rfl (Nat.le_of_ble_eq_true rfl) dX10_load_6 (st2 := []) rfl ?_
  refine q_eq (h2 := va_up (va_up h 36 r1) 38 r2) (by rw [e_r2]) rfl ?_
  refine q_aload_n X 0 dX10_load_9 rfl ?_
  refine q_get (fk := 1) (v := .ref (gA G 37 0)) X cf_X10 (ac_9_0 hT_36) (by decide) fl_X10_7 rfl rfl dX10_load_10 rfl ?_
  refine q_bipush (v := 32) X dX10_load_13 (by decide) ?_
  refine q_iconst (v := 0) X dX10_load_15 (by decide) ?_
  obtain ⟨r3, e_r3⟩ : ∃ z : Nat → Int32, z = va_up σ 32 0 := ⟨_, rfl⟩
  refine q_iast (h2 := va_up (va_up (va_up h 36 r1) 38 r2) 37 r3) X (ac_10_0 hT_37) (by rw [hT_37]; exact vin_lit (by decide)) dX10_load_16 ((va_up_ne _ _ (by decide)).trans ((va_up_ne _ _ (by decide)).trans (hr_37))) (by rw [show 0 + 1 * Int32.toNatClampNeg 32 = 32 from rfl, e_r3]) ?_
  refine q_aload_n X 0 dX10_load_17 rfl ?_
  refine q_iconst (v := 0) X dX10_load_18 (by decide) ?_
  obtain ⟨r4, e_r4⟩ : ∃ z : Nat → Int32, z = va_up r1 3 0 := ⟨_, rfl⟩
  have i_r4 : TI r4 := by rw [e_r4]; exact i_r1
  refine q_put (fk := 7) (h2 := va_up (va_up (va_up h 38 r2) 37 r3) 36 r4) X cf_X10 (ac_9_0 hT_36) (by decide) fl_X10_68 rfl rfl (by rw [hT_36]; rfl) rfl rfl rfl dX10_load_19 ((va_up_ne _ _ (by decide)).trans ((va_up_ne _ _ (by decide)).trans (va_up_self _ _ _))) (by rw [← e_r4]; funext x; simp only [va_up]; (repeat' split) <;> first | rfl | omega) ?_
  refine q_aload_n X 0 dX10_load_22 rfl ?_
  refine q_ldc X kc_X10_81 dX10_load_23 ?_
  obtain ⟨r5, e_r5⟩ : ∃ z : Nat → Int32, z = va_up r4 4 (-100009) := ⟨_, rfl⟩
  have i_r5 : TI r5 := by rw [e_r5]; exact TI_w4 i_r4
  refine q_put (fk := 8) (h2 := va_up (va_up (va_up h 38 r2) 37 r3) 36 r5) X cf_X10 (ac_9_0 hT_36) (by decide) fl_X10_78 rfl rfl (by rw [hT_36]; rfl) rfl rfl rfl dX10_load_25 (va_up_self _ _ _) (by rw [e_r5, va_up_up]) ?_
  refine q_aload_n X 0 dX10_load_28 rfl ?_
  obtain ⟨r6, e_r6⟩ : ∃ z : Nat → Int32, z = S_X10_skip r5 τ := ⟨_, rfl⟩
  have i_r6 : TI r6 := by rw [e_r6]; exact TI_X10_skip i_r5
  refine q_callV (h1 := _) (rest := []) (As := []) X (c_X10_skip (l := l) hG (κ := r5) (τ := τ)   hM (va_up_self _ _ _) ((va_up_ne _ _ (by decide)).trans ((va_up_ne _ _ (by decide)).trans ((va_up_ne _ _ (by decide)).trans (hr_40)))) i_r5) mf_X10_skip mv_X10_skip cf_X10 rfl (ac_9_0 hT_36) lk_X10_75 rfl ⟨by decide, by decide⟩ ⟨Nat.le_refl _, Nat.le_refl _⟩ rfl (Nat.le_of_ble_eq_true rfl) dX10_load_29 (st2 := []) rfl ?_
  refine q_eq (h2 := va_up (va_up (va_up h 38 r2) 37 r3) 36 r6) (by rw [e_r6]; exact va_up_up _ _ _ _) rfl ?_
  refine q_sub (lv2 := [(0, .ref (gA G 36 0))]) [0] rfl ?_
  refine q_eq (h2 := va_up (va_up (va_up h 36 r6) 37 r3) 38 r2) (by funext x; simp only [va_up]; (repeat' split) <;> first | rfl | omega) rfl ?_
  have E : L_X10_load_32 200 κ σ α β τ ω r6 r3 r2 = Z := by rw [← hZ, S_X10_load]; (try dsimp only); (try rw [← e_r1]); (try rw [← e_r2]); (try rw [← e_r3]); (try rw [← e_r4]); (try rw [← e_r5]); (try rw [← e_r6]); done
  exact w_X10_load_32 X hret hM hr_36 hr_37 hr_38 hr_39 hr_40 hr_41 hN Z 200 r6 r3 r2 (by exact i_r6) (by rw [e_r3, va_up_self]; decide) (by exact ti200 i_r6) E
