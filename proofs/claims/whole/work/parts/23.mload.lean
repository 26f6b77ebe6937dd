/-- the reader's own ints: kept states 1, length 2, next 3, wrong 4 -/
def TI (κ : Nat → Int32) : Prop := (0 ≤ (κ 1).toInt ∧ (κ 1).toInt ≤ 5) ∧ (0 ≤ (κ 2).toInt ∧ (κ 2).toInt ≤ 100) ∧ 0 ≤ (κ 3).toInt ∧ (κ 3).toInt ≤ 1000
def S_X10_here (κ : Nat → Int32) (τ : Nat → Int32) : Int32 := if (κ 2) ≤ (κ 3) then ((-1)) else (τ (Int32.toNatClampNeg (κ 3)))
set_option maxRecDepth 100000 in
set_option maxHeartbeats 4000000 in
theorem c_X10_here {G : Geo} {l : Launch} (hG : GOK G) {h : Hp} {κ : Nat → Int32} {τ : Nat → Int32} (hM : MT G) (hr_36 : h 36 = κ) (hr_40 : h 40 = τ) (hN : TI κ) : CM G l yX10_here cX10_here 1 (some .int) 0 0 [.ref (gA G 36 0)] h h (some (.int (S_X10_here κ τ))) := by
  obtain ⟨Z, hZ⟩ : ∃ Z, S_X10_here κ τ = Z := ⟨_, rfl⟩
  rw [hZ]
  refine q_enter hG mf_X10_here (Nat.le_of_ble_eq_true rfl) ?_
  intro p e s m below meth c X hret
  have hT_36 : gT G 36 = 9 := hM 36 (by decide) (by decide)
  have hT_40 : gT G 40 = 12 := hM 40 (by decide) (by decide)
  refine q_lv (lv2 := [(0, .ref (gA G 36 0))]) rfl ?_
  refine q_aload_n X 0 dX10_here_0 rfl ?_
  refine q_geti (fk := 7) (x := κ 3) X cf_X10 (ac_9_0 hT_36) (by decide) fl_X10_68 rfl rfl dX10_here_1 (hr_36) rfl ?_
  refine q_aload_n X 0 dX10_here_4 rfl ?_
  refine q_geti (fk := 6) (x := κ 2) X cf_X10 (ac_9_0 hT_36) (by decide) fl_X10_65 rfl rfl dX10_here_5 (hr_36) rfl ?_
  suffices hJ3 : ∀ (m2 : Int32), m2 = (if (κ 2) ≤ (κ 3) then ((-1)) else (τ (Int32.toNatClampNeg (κ 3)))) → VV G (AA G) p l e { frames := 0, cells := 0, slots := 0, locals := 0 } s m ([.ref (gA G 36 0)] : List Value).toArray below meth c 0 0 (MQ below (QC G h (some (.int Z))) ([.ref (gA G 36 0)] : List Value).toArray s 0 0 (AA G)) 1 h 24 [(0, .ref (gA G 36 0))] [.int m2] by
    refine q_icmp_ge (tgt := 23) X dX10_here_8 (by decide) (fun c1 => ?_) (fun c1 => ?_)
    · skip
      refine q_iconst (v := (-1)) X dX10_here_23 (by decide) ?_
      refine q_sub (lv2 := [(0, .ref (gA G 36 0))]) [0] rfl ?_
      exact hJ3 (-1) (by exact ((if_pos c1).trans rfl).symm)
    · skip
      refine q_aload_n X 0 dX10_here_11 rfl ?_
      refine q_get (fk := 5) (v := .ref (gA G 40 0)) X cf_X10 (ac_9_0 hT_36) (by decide) fl_X10_19 rfl rfl dX10_here_12 rfl ?_
      refine q_aload_n X 0 dX10_here_15 rfl ?_
      refine q_geti (fk := 7) (x := κ 3) X cf_X10 (ac_9_0 hT_36) (by decide) fl_X10_68 rfl rfl dX10_here_16 (hr_36) rfl ?_
      refine q_iald (x := τ (Int32.toNatClampNeg (κ 3))) X (ac_12_0 hT_40) (by rw [hT_40]; exact vin_i hN.2.2.1 (Int.lt_of_lt_of_le (nle c1) hN.2.1.2)) dX10_here_19 (hr_40) (by rw [Nat.zero_add, Nat.one_mul]) ?_
      refine q_goto (tgt := 24) X dX10_here_20 (by decide) ?_
      refine q_sub (lv2 := [(0, .ref (gA G 36 0))]) [0] rfl ?_
      exact hJ3 (τ (Int32.toNatClampNeg (κ 3))) (by exact ((if_neg c1).trans rfl).symm)
  intro m2 e_m2
  have E : Z = m2 := by subst e_m2; exact hZ.symm.trans (rfl)
  exact q_iret X hret dX10_here_24 (by rw [E]) rfl
theorem here_in {κ τ : Nat → Int32} (h : ¬ S_X10_here κ τ = -1) : ¬ κ 2 ≤ κ 3 := fun c => h (by
  unfold S_X10_here
  exact if_pos c)
theorem TI_nx {κ : Nat → Int32} (h : TI κ) (c : ¬ κ 2 ≤ κ 3) : TI (va_up κ 3 (κ 3 + 1)) ∧ (κ 3 + 1).toInt = (κ 3).toInt + 1 ∧ (κ 3).toInt + 1 ≤ (κ 2).toInt := by
  obtain ⟨h1, h2, h3⟩ := h
  have h4 := nle c
  have e : (κ 3 + 1).toInt = (κ 3).toInt + 1 := ta (b := 1) (by show -2147483648 ≤ (κ 3).toInt + 1; omega) (by show (κ 3).toInt + 1 < 2147483648; omega)
  refine ⟨⟨h1, h2, ?_⟩, e, by omega⟩
  show 0 ≤ (κ 3 + 1).toInt ∧ (κ 3 + 1).toInt ≤ 1000
  omega
theorem sk_dec {κ : Nat → Int32} {f : Nat} (h : TI κ) (c : ¬ κ 2 ≤ κ 3) (hm : ((κ 2).toInt - (κ 3).toInt).toNat < f + 1) : (((va_up κ 3 (κ 3 + 1)) 2).toInt - ((va_up κ 3 (κ 3 + 1)) 3).toInt).toNat < f := by
  have := (TI_nx h c).2
  show ((κ 2).toInt - (κ 3 + 1).toInt).toNat < f
  omega
theorem h32 {κ τ : Nat → Int32} (h : S_X10_here κ τ = 32) : ¬ κ 2 ≤ κ 3 := here_in (by rw [h]; decide)
theorem hdig {κ τ : Nat → Int32} (h : ¬ S_X10_in (S_X10_here κ τ) 48 57 = 0) : ¬ κ 2 ≤ κ 3 := here_in (fun z => by
  rw [z] at h
  exact h rfl)
def L_X10_skip_0 (fu : Nat) (κ : Nat → Int32) (τ : Nat → Int32) (κ1 : Nat → Int32) : (Nat → Int32) := match fu with
  | 0 => (fun _ => 0)
  | fu + 1 => if (S_X10_here κ1 τ) = 32 then (let r2 : Nat → Int32 := va_up κ1 3 ((κ1 3) + 1); L_X10_skip_0 fu κ τ r2) else (κ1)
def S_X10_skip (κ : Nat → Int32) (τ : Nat → Int32) : (Nat → Int32) := L_X10_skip_0 (((κ 2).toInt - (κ 3).toInt).toNat + 1) κ τ κ
set_option maxRecDepth 100000 in
set_option maxHeartbeats 4000000 in
theorem w_X10_skip_0 {G : Geo} {p : Program} {l : Launch} {e : Env} {s : State} {m : MethodId} {args : Array Value} {below : List Frame} {meth : Method} {c : Code} {h : Hp} {κ : Nat → Int32} {τ : Nat → Int32} (X : CX G (AA G) p s m meth c RX10 cX10_skip 1) (hret : meth.sig.returnType = none) (hM : MT G) (hr_36 : h 36 = κ) (hr_40 : h 40 = τ) (hN : TI κ) (Z : (Nat → Int32)) : ∀ (fu : Nat) (κ1 : Nat → Int32), (TI κ1) → ((κ1 2).toInt - (κ1 3).toInt).toNat < fu → L_X10_skip_0 fu κ τ κ1 = Z → VV G (AA G) p l e { frames := 1, cells := 0, slots := 0, locals := 20 } s m args below meth c 0 0 (MQ below (QC G (va_up h 36 Z) none) args s 0 0 (AA G)) 1 (va_up h 36 κ1) 0 [(0, .ref (gA G 36 0))] [] := by
  intro fu
  induction fu with
  | zero =>
    intro κ1 hN1 hm
    exact absurd hm (Nat.not_lt_zero _)
  | succ fu ih =>
    intro κ1 hN1 hm hZ
    have hG := X.2.2.2.2.2.1
    have hT_36 : gT G 36 = 9 := hM 36 (by decide) (by decide)
    have hT_40 : gT G 40 = 12 := hM 40 (by decide) (by decide)
    refine q_aload_n X 0 dX10_skip_0 rfl ?_
    refine q_callV (h1 := _) (rest := []) (As := []) X (c_X10_here (l := l) hG (κ := κ1) (τ := τ)   hM (va_up_self _ _ _) ((va_up_ne _ _ (by decide)).trans (hr_40)) hN1) mf_X10_here mv_X10_here cf_X10 rfl (ac_9_0 hT_36) lk_X10_71 rfl ⟨by decide, by decide⟩ ⟨Nat.le_refl _, Nat.le_refl _⟩ rfl (Nat.le_of_ble_eq_true rfl) dX10_skip_1 (st2 := [.int (S_X10_here κ1 τ)]) rfl ?_
    refine q_bipush (v := 32) X dX10_skip_4 (by decide) ?_
    refine q_icmp_ne (tgt := 22) X dX10_skip_6 (by decide) (fun c1 => ?_) (fun c1 => ?_)
    · skip
      have E : Z = κ1 := by exact hZ.symm.trans ((if_neg c1).trans rfl)
      exact q_vret X hret dX10_skip_22 rfl (by rw [E])
    · skip
      refine q_aload_n X 0 dX10_skip_9 rfl ?_
      refine q_dup X dX10_skip_10 rfl ?_
      refine q_geti (fk := 7) (x := κ1 3) X cf_X10 (ac_9_0 hT_36) (by decide) fl_X10_68 rfl rfl dX10_skip_11 (va_up_self _ _ _) rfl ?_
      refine q_iconst (v := 1) X dX10_skip_14 (by decide) ?_
      refine q_iadd X dX10_skip_15 ?_
      obtain ⟨r2, e_r2⟩ : ∃ z : Nat → Int32, z = va_up κ1 3 ((κ1 3) + 1) := ⟨_, rfl⟩
      refine q_put (fk := 7) (h2 := va_up h 36 r2) X cf_X10 (ac_9_0 hT_36) (by decide) fl_X10_68 rfl rfl (by rw [hT_36]; rfl) rfl rfl rfl dX10_skip_16 (va_up_self _ _ _) (by rw [e_r2, va_up_up]) ?_
      refine q_goto (tgt := 0) X dX10_skip_19 (by decide) ?_
      refine q_sub (lv2 := [(0, .ref (gA G 36 0))]) [0] rfl ?_
      have E : L_X10_skip_0 fu κ τ r2 = Z := Eq.trans (Eq.symm (by subst e_r2; exact (if_pos c1).trans rfl)) hZ
      exact ih r2 (by subst e_r2; exact (TI_nx hN1 (h32 c1)).1) (by subst e_r2; exact sk_dec hN1 (h32 c1) hm) E
set_option maxRecDepth 100000 in
set_option maxHeartbeats 4000000 in
theorem c_X10_skip {G : Geo} {l : Launch} (hG : GOK G) {h : Hp} {κ : Nat → Int32} {τ : Nat → Int32} (hM : MT G) (hr_36 : h 36 = κ) (hr_40 : h 40 = τ) (hN : TI κ) : CM G l yX10_skip cX10_skip 1 none 1 20 [.ref (gA G 36 0)] h (va_up h 36 (S_X10_skip κ τ)) none := by
  obtain ⟨Z, hZ⟩ : ∃ Z, S_X10_skip κ τ = Z := ⟨_, rfl⟩
  rw [hZ]
  refine q_enter hG mf_X10_skip (Nat.le_of_ble_eq_true rfl) ?_
  intro p e s m below meth c X hret
  have hT_36 : gT G 36 = 9 := hM 36 (by decide) (by decide)
  have hT_40 : gT G 40 = 12 := hM 40 (by decide) (by decide)
  refine q_lv (lv2 := [(0, .ref (gA G 36 0))]) rfl ?_
  refine q_sub (lv2 := [(0, .ref (gA G 36 0))]) [0] rfl ?_
  refine q_eq (h2 := va_up h 36 κ) (va_up_id2 (hr_36)).symm rfl ?_
  have E : L_X10_skip_0 (((κ 2).toInt - (κ 3).toInt).toNat + 1) κ τ κ = Z := Eq.trans (Eq.symm (by exact rfl)) hZ
  exact w_X10_skip_0 X hret hM hr_36 hr_40 hN Z (((κ 2).toInt - (κ 3).toInt).toNat + 1) κ (by exact hN) (by exact Nat.lt_succ_self _) E
/-- what skip does -/
def SK (κ κ' : Nat → Int32) : Prop := (∀ k, k ≠ 3 → k ≠ 4 → κ' k = κ k) ∧ (κ 3).toInt ≤ (κ' 3).toInt ∧ ((κ' 3).toInt ≤ (κ 3).toInt ∨ (κ' 3).toInt ≤ (κ 2).toInt)
theorem SK.rf {κ : Nat → Int32} : SK κ κ := ⟨fun _ _ _ => rfl, Int.le_refl _, Or.inl (Int.le_refl _)⟩
theorem SK.tr {a b c : Nat → Int32} (h : SK a b) (h' : SK b c) : SK a c := by
  obtain ⟨h1, h2, h3⟩ := h
  obtain ⟨k1, k2, k3⟩ := h'
  refine ⟨fun k q q' => (k1 k q q').trans (h1 k q q'), by omega, ?_⟩
  rw [h1 2 (by decide) (by decide)] at k3
  omega
theorem SK.ti {a b : Nat → Int32} (h : TI a) (h' : SK a b) : TI b := by
  obtain ⟨h1, h2, h3⟩ := h
  obtain ⟨k1, k2, k3⟩ := h'
  unfold TI
  rw [k1 1 (by decide) (by decide), k1 2 (by decide) (by decide)]
  refine ⟨h1, h2, by omega, by omega⟩
theorem SK.nx {κ : Nat → Int32} (h : TI κ) (c : ¬ κ 2 ≤ κ 3) : SK κ (va_up κ 3 (κ 3 + 1)) := by
  obtain ⟨a, b, d⟩ := TI_nx h c
  refine ⟨fun k q _ => va_up_ne _ _ q, ?_, Or.inr ?_⟩
  · show (κ 3).toInt ≤ (κ 3 + 1).toInt
    omega
  · show (κ 3 + 1).toInt ≤ (κ 2).toInt
    omega
theorem SK.w4 {κ : Nat → Int32} (v : Int32) : SK κ (va_up κ 4 v) := ⟨fun k _ q => va_up_ne _ _ q, Int.le_refl _, Or.inl (Int.le_refl _)⟩
theorem L_skip_SK {κ τ : Nat → Int32} : ∀ (fu : Nat) (κ1 : Nat → Int32), TI κ1 → ((κ1 2).toInt - (κ1 3).toInt).toNat < fu → SK κ1 (L_X10_skip_0 fu κ τ κ1) := by
  intro fu
  induction fu with
  | zero => intro _ _ h; exact absurd h (Nat.not_lt_zero _)
  | succ fu ih =>
    intro κ1 h hm
    unfold L_X10_skip_0
    by_cases c : S_X10_here κ1 τ = 32
    · rw [if_pos c]
      have c2 := h32 c
      exact (SK.nx h c2).tr (ih _ (TI_nx h c2).1 (sk_dec h c2 hm))
    · rw [if_neg c]
      exact SK.rf
theorem skip_SK {κ τ : Nat → Int32} (h : TI κ) : SK κ (S_X10_skip κ τ) := L_skip_SK _ _ h (Nat.lt_succ_self _)
theorem tn_in {κ1 : Nat → Int32} {sa : Int32} (h : TI κ1) (h0 : 0 ≤ sa.toInt) (hd : κ1 3 = sa ∨ sa.toInt < (κ1 2).toInt) (c : ¬ κ1 3 ≤ sa) : vp_in sa 100 := by
  have h1 := nle c
  obtain ⟨-, h2, -⟩ := h
  rcases hd with q | q
  · rw [q] at h1; omega
  · exact vin_i h0 (by omega)
def L_X10_takeNumber_12 (fu : Nat) (κ : Nat → Int32) (τ : Nat → Int32) (le : Int32) (mo : Int32) (sa : Int32) (va : Int32) (κ1 : Nat → Int32) : Int32 × (Nat → Int32) := match fu with
  | 0 => (0, (fun _ => 0))
  | fu + 1 => if (S_X10_in (S_X10_here κ1 τ) 48 57) = 0 then (let m4 : Int32 := if (κ1 3) ≤ sa then (0) else (if (τ (Int32.toNatClampNeg sa)) = 48 then (if (κ1 3) = (sa + 1) then (if (S_X10_in va le mo) = 0 then (0) else (1)) else (0)) else (if (S_X10_in va le mo) = 0 then (0) else (1))); let m11 : Int32 := if m4 = 0 then (if (κ1 4) = (-100009) then (sa) else (κ1 4)) else (κ1 4); let r14 : Nat → Int32 := va_up κ1 4 m11; (va, r14)) else (let m16 : Int32 := if 10000 ≤ va then (va) else (((10 * va) + (S_X10_here κ1 τ)) - 48); let r18 : Nat → Int32 := va_up κ1 3 ((κ1 3) + 1); L_X10_takeNumber_12 fu κ τ le mo sa m16 r18)
def S_X10_takeNumber (κ : Nat → Int32) (τ : Nat → Int32) (le : Int32) (mo : Int32) : Int32 × (Nat → Int32) := let r1 : Nat → Int32 := S_X10_skip κ τ; L_X10_takeNumber_12 ((((S_X10_skip κ τ) 2).toInt - ((S_X10_skip κ τ) 3).toInt).toNat + 1) κ τ le mo (r1 3) 0 r1
set_option maxRecDepth 100000 in
set_option maxHeartbeats 4000000 in
theorem w_X10_takeNumber_12 {G : Geo} {p : Program} {l : Launch} {e : Env} {s : State} {m : MethodId} {args : Array Value} {below : List Frame} {meth : Method} {c : Code} {h : Hp} {κ : Nat → Int32} {τ : Nat → Int32} {le : Int32} {mo : Int32} (X : CX G (AA G) p s m meth c RX10 cX10_takeNumber 6) (hret : meth.sig.returnType = (some .int)) (hM : MT G) (hr_36 : h 36 = κ) (hr_40 : h 40 = τ) (hN : TI κ) (Z : Int32 × (Nat → Int32)) : ∀ (fu : Nat) (sa : Int32) (va : Int32) (κ1 : Nat → Int32), (TI κ1) → (0 ≤ sa.toInt) → ((κ1 3 = sa ∨ sa.toInt < (κ1 2).toInt)) → ((κ1 2).toInt - (κ1 3).toInt).toNat < fu → L_X10_takeNumber_12 fu κ τ le mo sa va κ1 = Z → VV G (AA G) p l e { frames := 2, cells := 0, slots := 0, locals := 40 } s m args below meth c 0 0 (MQ below (QC G (va_up h 36 Z.2) (some (.int Z.1))) args s 0 0 (AA G)) 6 (va_up h 36 κ1) 12 [(0, .ref (gA G 36 0)), (1, .int le), (2, .int mo), (3, .int sa), (4, .int va)] [] := by
  intro fu
  induction fu with
  | zero =>
    intro sa va κ1 hN1 hs0 hsa hm
    exact absurd hm (Nat.not_lt_zero _)
  | succ fu ih =>
    intro sa va κ1 hN1 hs0 hsa hm hZ
    have hG := X.2.2.2.2.2.1
    have hT_36 : gT G 36 = 9 := hM 36 (by decide) (by decide)
    have hT_40 : gT G 40 = 12 := hM 40 (by decide) (by decide)
    refine q_aload_n X 0 dX10_takeNumber_12 rfl ?_
    refine q_callV (h1 := _) (rest := []) (As := []) X (c_X10_here (l := l) hG (κ := κ1) (τ := τ)   hM (va_up_self _ _ _) ((va_up_ne _ _ (by decide)).trans (hr_40)) hN1) mf_X10_here mv_X10_here cf_X10 rfl (ac_9_0 hT_36) lk_X10_71 rfl ⟨by decide, by decide⟩ ⟨Nat.le_refl _, Nat.le_refl _⟩ rfl (Nat.le_of_ble_eq_true rfl) dX10_takeNumber_13 (st2 := [.int (S_X10_here κ1 τ)]) rfl ?_
    refine q_bipush (v := 48) X dX10_takeNumber_16 (by decide) ?_
    refine q_bipush (v := 57) X dX10_takeNumber_18 (by decide) ?_
    refine q_callS (h1 := _) (rest := []) (As := [.int (S_X10_here κ1 τ), .int 48, .int 57]) X (c_X10_in (l := l) hG   (S_X10_here κ1 τ) 48 57 ) mf_X10_in ms_X10_in lk_X10_39 rfl ⟨by decide, by decide⟩ ⟨Nat.le_refl _, Nat.le_refl _⟩ rfl (Nat.le_of_ble_eq_true rfl) dX10_takeNumber_20 (st2 := [.int (S_X10_in (S_X10_here κ1 τ) 48 57)]) rfl ?_
    refine q_if_eq (tgt := 67) X dX10_takeNumber_23 (by decide) (fun c2 => ?_) (fun c2 => ?_)
    · skip
      refine q_aload_n X 0 dX10_takeNumber_67 rfl ?_
      refine q_geti (fk := 7) (x := κ1 3) X cf_X10 (ac_9_0 hT_36) (by decide) fl_X10_68 rfl rfl dX10_takeNumber_68 (va_up_self _ _ _) rfl ?_
      refine q_iload_n X 3 dX10_takeNumber_71 rfl ?_
      suffices hJ9 : ∀ (m4 : Int32), m4 = (if (κ1 3) ≤ sa then (0) else (if (τ (Int32.toNatClampNeg sa)) = 48 then (if (κ1 3) = (sa + 1) then (if (S_X10_in va le mo) = 0 then (0) else (1)) else (0)) else (if (S_X10_in va le mo) = 0 then (0) else (1)))) → VV G (AA G) p l e { frames := 2, cells := 0, slots := 0, locals := 40 } s m args below meth c 0 0 (MQ below (QC G (va_up h 36 Z.2) (some (.int Z.1))) args s 0 0 (AA G)) 6 (va_up h 36 κ1) 111 [(0, .ref (gA G 36 0)), (1, .int le), (2, .int mo), (3, .int sa), (4, .int va)] [.int m4] by
        refine q_icmp_le (tgt := 110) X dX10_takeNumber_72 (by decide) (fun c3 => ?_) (fun c3 => ?_)
        · skip
          refine q_iconst (v := 0) X dX10_takeNumber_110 (by decide) ?_
          refine q_sub (lv2 := [(0, .ref (gA G 36 0)), (1, .int le), (2, .int mo), (3, .int sa), (4, .int va)]) [0, 1, 2, 3, 4] rfl ?_
          exact hJ9 0 (by exact ((if_pos c3).trans rfl).symm)
        · skip
          refine q_aload_n X 0 dX10_takeNumber_75 rfl ?_
          refine q_get (fk := 5) (v := .ref (gA G 40 0)) X cf_X10 (ac_9_0 hT_36) (by decide) fl_X10_19 rfl rfl dX10_takeNumber_76 rfl ?_
          refine q_iload_n X 3 dX10_takeNumber_79 rfl ?_
          refine q_iald (x := τ (Int32.toNatClampNeg sa)) X (ac_12_0 hT_40) (by rw [hT_40]; exact tn_in hN1 hs0 hsa c3) dX10_takeNumber_80 ((va_up_ne _ _ (by decide)).trans (hr_40)) (by rw [Nat.zero_add, Nat.one_mul]) ?_
          refine q_bipush (v := 48) X dX10_takeNumber_81 (by decide) ?_
          refine q_icmp_ne (tgt := 96) X dX10_takeNumber_83 (by decide) (fun c5 => ?_) (fun c5 => ?_)
          · skip
            refine q_iload X 4 dX10_takeNumber_96 rfl ?_
            refine q_iload_n X 1 dX10_takeNumber_98 rfl ?_
            refine q_iload_n X 2 dX10_takeNumber_99 rfl ?_
            refine q_callS (h1 := _) (rest := []) (As := [.int va, .int le, .int mo]) X (c_X10_in (l := l) hG   va le mo ) mf_X10_in ms_X10_in lk_X10_39 rfl ⟨by decide, by decide⟩ ⟨Nat.le_refl _, Nat.le_refl _⟩ rfl (Nat.le_of_ble_eq_true rfl) dX10_takeNumber_100 (st2 := [.int (S_X10_in va le mo)]) rfl ?_
            refine q_if_eq (tgt := 110) X dX10_takeNumber_103 (by decide) (fun c6 => ?_) (fun c6 => ?_)
            · skip
              refine q_iconst (v := 0) X dX10_takeNumber_110 (by decide) ?_
              refine q_sub (lv2 := [(0, .ref (gA G 36 0)), (1, .int le), (2, .int mo), (3, .int sa), (4, .int va)]) [0, 1, 2, 3, 4] rfl ?_
              exact hJ9 0 (by exact ((if_neg c3).trans ((if_neg c5).trans ((if_pos c6).trans rfl))).symm)
            · skip
              refine q_iconst (v := 1) X dX10_takeNumber_106 (by decide) ?_
              refine q_goto (tgt := 111) X dX10_takeNumber_107 (by decide) ?_
              refine q_sub (lv2 := [(0, .ref (gA G 36 0)), (1, .int le), (2, .int mo), (3, .int sa), (4, .int va)]) [0, 1, 2, 3, 4] rfl ?_
              exact hJ9 1 (by exact ((if_neg c3).trans ((if_neg c5).trans ((if_neg c6).trans rfl))).symm)
          · skip
            refine q_aload_n X 0 dX10_takeNumber_86 rfl ?_
            refine q_geti (fk := 7) (x := κ1 3) X cf_X10 (ac_9_0 hT_36) (by decide) fl_X10_68 rfl rfl dX10_takeNumber_87 (va_up_self _ _ _) rfl ?_
            refine q_iload_n X 3 dX10_takeNumber_90 rfl ?_
            refine q_iconst (v := 1) X dX10_takeNumber_91 (by decide) ?_
            refine q_iadd X dX10_takeNumber_92 ?_
            refine q_icmp_ne (tgt := 110) X dX10_takeNumber_93 (by decide) (fun c7 => ?_) (fun c7 => ?_)
            · skip
              refine q_iconst (v := 0) X dX10_takeNumber_110 (by decide) ?_
              refine q_sub (lv2 := [(0, .ref (gA G 36 0)), (1, .int le), (2, .int mo), (3, .int sa), (4, .int va)]) [0, 1, 2, 3, 4] rfl ?_
              exact hJ9 0 (by exact ((if_neg c3).trans ((if_pos c5).trans ((if_neg c7).trans rfl))).symm)
            · skip
              refine q_iload X 4 dX10_takeNumber_96 rfl ?_
              refine q_iload_n X 1 dX10_takeNumber_98 rfl ?_
              refine q_iload_n X 2 dX10_takeNumber_99 rfl ?_
              refine q_callS (h1 := _) (rest := []) (As := [.int va, .int le, .int mo]) X (c_X10_in (l := l) hG   va le mo ) mf_X10_in ms_X10_in lk_X10_39 rfl ⟨by decide, by decide⟩ ⟨Nat.le_refl _, Nat.le_refl _⟩ rfl (Nat.le_of_ble_eq_true rfl) dX10_takeNumber_100 (st2 := [.int (S_X10_in va le mo)]) rfl ?_
              refine q_if_eq (tgt := 110) X dX10_takeNumber_103 (by decide) (fun c8 => ?_) (fun c8 => ?_)
              · skip
                refine q_iconst (v := 0) X dX10_takeNumber_110 (by decide) ?_
                refine q_sub (lv2 := [(0, .ref (gA G 36 0)), (1, .int le), (2, .int mo), (3, .int sa), (4, .int va)]) [0, 1, 2, 3, 4] rfl ?_
                exact hJ9 0 (by exact ((if_neg c3).trans ((if_pos c5).trans ((if_pos c7).trans ((if_pos c8).trans rfl)))).symm)
              · skip
                refine q_iconst (v := 1) X dX10_takeNumber_106 (by decide) ?_
                refine q_goto (tgt := 111) X dX10_takeNumber_107 (by decide) ?_
                refine q_sub (lv2 := [(0, .ref (gA G 36 0)), (1, .int le), (2, .int mo), (3, .int sa), (4, .int va)]) [0, 1, 2, 3, 4] rfl ?_
                exact hJ9 1 (by exact ((if_neg c3).trans ((if_pos c5).trans ((if_pos c7).trans ((if_neg c8).trans rfl)))).symm)
      intro m4 e_m4
      refine q_istore (lv' := [(5, .int m4), (0, .ref (gA G 36 0)), (1, .int le), (2, .int mo), (3, .int sa), (4, .int va)]) X dX10_takeNumber_111 (by decide) rfl ?_
      refine q_aload_n X 1 dX10_takeNumber_113 rfl ?_
      refine q_iload X 0 dX10_takeNumber_114 rfl ?_
      suffices hJ13 : ∀ (m11 : Int32), m11 = (if m4 = 0 then (if (κ1 4) = (-100009) then (sa) else (κ1 4)) else (κ1 4)) → VV G (AA G) p l e { frames := 2, cells := 0, slots := 0, locals := 40 } s m args below meth c 0 0 (MQ below (QC G (va_up h 36 Z.2) (some (.int Z.1))) args s 0 0 (AA G)) 6 (va_up h 36 κ1) 136 [(5, .int m4), (0, .ref (gA G 36 0)), (1, .int le), (2, .int mo), (3, .int sa), (4, .int va)] [.int m11, .ref (gA G 36 0)] by
        refine q_if_ne (tgt := 128) X dX10_takeNumber_116 (by decide) (fun c10 => ?_) (fun c10 => ?_)
        · skip
          refine q_aload_n X 1 dX10_takeNumber_128 rfl ?_
          refine q_geti (fk := 8) (x := κ1 4) X cf_X10 (ac_9_0 hT_36) (by decide) fl_X10_78 rfl rfl dX10_takeNumber_129 (va_up_self _ _ _) rfl ?_
          refine q_goto (tgt := 136) X dX10_takeNumber_132 (by decide) ?_
          refine q_sub (lv2 := [(5, .int m4), (0, .ref (gA G 36 0)), (1, .int le), (2, .int mo), (3, .int sa), (4, .int va)]) [0, 1, 2, 3, 4, 5] rfl ?_
          exact hJ13 (κ1 4) (by exact ((if_neg c10).trans rfl).symm)
        · skip
          refine q_aload_n X 1 dX10_takeNumber_119 rfl ?_
          refine q_geti (fk := 8) (x := κ1 4) X cf_X10 (ac_9_0 hT_36) (by decide) fl_X10_78 rfl rfl dX10_takeNumber_120 (va_up_self _ _ _) rfl ?_
          refine q_ldc X kc_X10_81 dX10_takeNumber_123 ?_
          refine q_icmp_eq (tgt := 135) X dX10_takeNumber_125 (by decide) (fun c12 => ?_) (fun c12 => ?_)
          · skip
            refine q_iload_n X 4 dX10_takeNumber_135 rfl ?_
            refine q_sub (lv2 := [(5, .int m4), (0, .ref (gA G 36 0)), (1, .int le), (2, .int mo), (3, .int sa), (4, .int va)]) [0, 1, 2, 3, 4, 5] rfl ?_
            exact hJ13 sa (by exact ((if_pos c10).trans ((if_pos c12).trans rfl)).symm)
          · skip
            refine q_aload_n X 1 dX10_takeNumber_128 rfl ?_
            refine q_geti (fk := 8) (x := κ1 4) X cf_X10 (ac_9_0 hT_36) (by decide) fl_X10_78 rfl rfl dX10_takeNumber_129 (va_up_self _ _ _) rfl ?_
            refine q_goto (tgt := 136) X dX10_takeNumber_132 (by decide) ?_
            refine q_sub (lv2 := [(5, .int m4), (0, .ref (gA G 36 0)), (1, .int le), (2, .int mo), (3, .int sa), (4, .int va)]) [0, 1, 2, 3, 4, 5] rfl ?_
            exact hJ13 (κ1 4) (by exact ((if_pos c10).trans ((if_neg c12).trans rfl)).symm)
      intro m11 e_m11
      obtain ⟨r14, e_r14⟩ : ∃ z : Nat → Int32, z = va_up κ1 4 m11 := ⟨_, rfl⟩
      refine q_put (fk := 8) (h2 := va_up h 36 r14) X cf_X10 (ac_9_0 hT_36) (by decide) fl_X10_78 rfl rfl (by rw [hT_36]; rfl) rfl rfl rfl dX10_takeNumber_136 (va_up_self _ _ _) (by rw [e_r14, va_up_up]) ?_
      refine q_iload X 5 dX10_takeNumber_139 rfl ?_
      have E : Z = (va, r14) := by subst e_r14; subst e_m11; subst e_m4; exact hZ.symm.trans ((if_pos c2).trans rfl)
      exact q_iret X hret dX10_takeNumber_141 (by rw [E]) (by rw [E])
    · skip
      refine q_iload X 4 dX10_takeNumber_26 rfl ?_
      refine q_sipush (v := 10000) X dX10_takeNumber_28 (by decide) ?_
      suffices hJ17 : ∀ (m16 : Int32), m16 = (if 10000 ≤ va then (va) else (((10 * va) + (S_X10_here κ1 τ)) - 48)) → VV G (AA G) p l e { frames := 2, cells := 0, slots := 0, locals := 40 } s m args below meth c 0 0 (MQ below (QC G (va_up h 36 Z.2) (some (.int Z.1))) args s 0 0 (AA G)) 6 (va_up h 36 κ1) 52 [(0, .ref (gA G 36 0)), (1, .int le), (2, .int mo), (3, .int sa), (4, .int va)] [.int m16] by
        refine q_icmp_ge (tgt := 50) X dX10_takeNumber_31 (by decide) (fun c15 => ?_) (fun c15 => ?_)
        · skip
          refine q_iload X 4 dX10_takeNumber_50 rfl ?_
          refine q_sub (lv2 := [(0, .ref (gA G 36 0)), (1, .int le), (2, .int mo), (3, .int sa), (4, .int va)]) [0, 1, 2, 3, 4] rfl ?_
          exact hJ17 va (by exact ((if_pos c15).trans rfl).symm)
        · skip
          refine q_bipush (v := 10) X dX10_takeNumber_34 (by decide) ?_
          refine q_iload X 4 dX10_takeNumber_36 rfl ?_
          refine q_imul X dX10_takeNumber_38 ?_
          refine q_aload_n X 0 dX10_takeNumber_39 rfl ?_
          refine q_callV (h1 := _) (rest := [.int (10 * va)]) (As := []) X (c_X10_here (l := l) hG (κ := κ1) (τ := τ)   hM (va_up_self _ _ _) ((va_up_ne _ _ (by decide)).trans (hr_40)) hN1) mf_X10_here mv_X10_here cf_X10 rfl (ac_9_0 hT_36) lk_X10_71 rfl ⟨by decide, by decide⟩ ⟨Nat.le_refl _, Nat.le_refl _⟩ rfl (Nat.le_of_ble_eq_true rfl) dX10_takeNumber_40 (st2 := [.int (S_X10_here κ1 τ), .int (10 * va)]) rfl ?_
          refine q_iadd X dX10_takeNumber_43 ?_
          refine q_bipush (v := 48) X dX10_takeNumber_44 (by decide) ?_
          refine q_isub X dX10_takeNumber_46 ?_
          refine q_goto (tgt := 52) X dX10_takeNumber_47 (by decide) ?_
          refine q_sub (lv2 := [(0, .ref (gA G 36 0)), (1, .int le), (2, .int mo), (3, .int sa), (4, .int va)]) [0, 1, 2, 3, 4] rfl ?_
          exact hJ17 (((10 * va) + (S_X10_here κ1 τ)) - 48) (by exact ((if_neg c15).trans rfl).symm)
      intro m16 e_m16
      refine q_istore (lv' := [(4, .int m16), (0, .ref (gA G 36 0)), (1, .int le), (2, .int mo), (3, .int sa)]) X dX10_takeNumber_52 (by decide) rfl ?_
      refine q_aload_n X 1 dX10_takeNumber_54 rfl ?_
      refine q_dup X dX10_takeNumber_55 rfl ?_
      refine q_geti (fk := 7) (x := κ1 3) X cf_X10 (ac_9_0 hT_36) (by decide) fl_X10_68 rfl rfl dX10_takeNumber_56 (va_up_self _ _ _) rfl ?_
      refine q_iconst (v := 1) X dX10_takeNumber_59 (by decide) ?_
      refine q_iadd X dX10_takeNumber_60 ?_
      obtain ⟨r18, e_r18⟩ : ∃ z : Nat → Int32, z = va_up κ1 3 ((κ1 3) + 1) := ⟨_, rfl⟩
      refine q_put (fk := 7) (h2 := va_up h 36 r18) X cf_X10 (ac_9_0 hT_36) (by decide) fl_X10_68 rfl rfl (by rw [hT_36]; rfl) rfl rfl rfl dX10_takeNumber_61 (va_up_self _ _ _) (by rw [e_r18, va_up_up]) ?_
      refine q_goto (tgt := 12) X dX10_takeNumber_64 (by decide) ?_
      refine q_sub (lv2 := [(0, .ref (gA G 36 0)), (1, .int le), (2, .int mo), (3, .int sa), (4, .int m16)]) [1, 2, 3, 4, 0] rfl ?_
      have E : L_X10_takeNumber_12 fu κ τ le mo sa m16 r18 = Z := Eq.trans (Eq.symm (by subst e_r18; subst e_m16; exact (if_neg c2).trans rfl)) hZ
      exact ih sa m16 r18 (by subst e_r18; subst e_m16; exact (TI_nx hN1 (hdig c2)).1) (by subst e_r18; subst e_m16; exact hs0) (by subst e_r18; subst e_m16; exact Or.inr (by have := (TI_nx hN1 (hdig c2)).2.2; show sa.toInt < (κ1 2).toInt; rcases hsa with q | q; (rw [← q]; omega); exact q)) (by subst e_r18; subst e_m16; exact sk_dec hN1 (hdig c2) hm) E
set_option maxRecDepth 100000 in
set_option maxHeartbeats 4000000 in
theorem c_X10_takeNumber {G : Geo} {l : Launch} (hG : GOK G) {h : Hp} {κ : Nat → Int32} {τ : Nat → Int32} (le : Int32) (mo : Int32) (hM : MT G) (hr_36 : h 36 = κ) (hr_40 : h 40 = τ) (hN : TI κ) : CM G l yX10_takeNumber cX10_takeNumber 6 (some .int) 2 40 [.ref (gA G 36 0), .int le, .int mo] h (va_up h 36 ((S_X10_takeNumber κ τ le mo).2)) (some (.int ((S_X10_takeNumber κ τ le mo).1))) := by
  obtain ⟨Z, hZ⟩ : ∃ Z, S_X10_takeNumber κ τ le mo = Z := ⟨_, rfl⟩
  rw [hZ]
  refine q_enter hG mf_X10_takeNumber (Nat.le_of_ble_eq_true rfl) ?_
  intro p e s m below meth c X hret
  have hT_36 : gT G 36 = 9 := hM 36 (by decide) (by decide)
  have hT_40 : gT G 40 = 12 := hM 40 (by decide) (by decide)
  refine q_lv (lv2 := [(0, .ref (gA G 36 0)), (1, .int le), (2, .int mo)]) rfl ?_
  refine q_aload_n X 0 dX10_takeNumber_0 rfl ?_
  obtain ⟨r1, e_r1⟩ : ∃ z : Nat → Int32, z = S_X10_skip κ τ := ⟨_, rfl⟩
  refine q_callV (h1 := _) (rest := []) (As := []) X (c_X10_skip (l := l) hG (κ := κ) (τ := τ)   hM (hr_36) (hr_40) hN) mf_X10_skip mv_X10_skip cf_X10 rfl (ac_9_0 hT_36) lk_X10_75 rfl ⟨by decide, by decide⟩ ⟨Nat.le_refl _, Nat.le_refl _⟩ rfl (Nat.le_of_ble_eq_true rfl) dX10_takeNumber_1 (st2 := []) rfl ?_
  refine q_eq (h2 := va_up h 36 r1) (by rw [e_r1]) rfl ?_
  refine q_aload_n X 0 dX10_takeNumber_4 rfl ?_
  refine q_geti (fk := 7) (x := r1 3) X cf_X10 (ac_9_0 hT_36) (by decide) fl_X10_68 rfl rfl dX10_takeNumber_5 (va_up_self _ _ _) rfl ?_
  refine q_istore_n (lv' := [(3, .int (r1 3)), (0, .ref (gA G 36 0)), (1, .int le), (2, .int mo)]) X dX10_takeNumber_8 (by decide) rfl ?_
  refine q_iconst (v := 0) X dX10_takeNumber_9 (by decide) ?_
  refine q_istore (lv' := [(4, .int 0), (3, .int (r1 3)), (0, .ref (gA G 36 0)), (1, .int le), (2, .int mo)]) X dX10_takeNumber_10 (by decide) rfl ?_
  refine q_sub (lv2 := [(0, .ref (gA G 36 0)), (1, .int le), (2, .int mo), (3, .int (r1 3)), (4, .int 0)]) [2, 3, 4, 1, 0] rfl ?_
  have E : L_X10_takeNumber_12 ((((S_X10_skip κ τ) 2).toInt - ((S_X10_skip κ τ) 3).toInt).toNat + 1) κ τ le mo (r1 3) 0 r1 = Z := Eq.trans (Eq.symm (by subst e_r1; exact rfl)) hZ
  exact w_X10_takeNumber_12 X hret hM hr_36 hr_40 hN Z ((((S_X10_skip κ τ) 2).toInt - ((S_X10_skip κ τ) 3).toInt).toNat + 1) (r1 3) 0 r1 (by subst e_r1; exact (skip_SK hN).ti hN) (by subst e_r1; exact ((skip_SK hN).ti hN).2.2.1) (by subst e_r1; exact Or.inl rfl) (by subst e_r1; exact Nat.lt_succ_self _) E
theorem L_take_SK {κ τ : Nat → Int32} {le mo : Int32} : ∀ (fu : Nat) (sa va : Int32) (κ1 : Nat → Int32), TI κ1 → ((κ1 2).toInt - (κ1 3).toInt).toNat < fu → SK κ1 (L_X10_takeNumber_12 fu κ τ le mo sa va κ1).2 := by
  intro fu
  induction fu with
  | zero => intro _ _ _ _ h; exact absurd h (Nat.not_lt_zero _)
  | succ fu ih =>
    intro sa va κ1 h hm
    unfold L_X10_takeNumber_12
    by_cases c : S_X10_in (S_X10_here κ1 τ) 48 57 = 0
    · rw [if_pos c]
      exact SK.w4 _
    · rw [if_neg c]
      have c2 := hdig c
      exact (SK.nx h c2).tr (ih _ _ _ (TI_nx h c2).1 (sk_dec h c2 hm))
theorem take_SK {κ τ : Nat → Int32} {le mo : Int32} (h : TI κ) : SK κ (S_X10_takeNumber κ τ le mo).2 := by
  have h1 := skip_SK (τ := τ) h
  exact h1.tr (L_take_SK _ _ _ _ (h1.ti h) (Nat.lt_succ_self _))
theorem TI_w4 {κ : Nat → Int32} {v : Int32} (h : TI κ) : TI (va_up κ 4 v) := (SK.w4 v).ti h
theorem TI_X10_skip {κ τ : Nat → Int32} (h : TI κ) : TI (S_X10_skip κ τ) := (skip_SK h).ti h
theorem TI_X10_takeNumber {κ τ : Nat → Int32} {le mo : Int32} (h : TI κ) : TI (S_X10_takeNumber κ τ le mo).2 := (take_SK h).ti h
