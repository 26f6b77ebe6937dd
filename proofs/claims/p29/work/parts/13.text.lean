theorem ms_dn5 {k : Int32} {f : Nat} (h : ¬ k < 6) (hm : (k.toInt - (5 : Int32).toInt).toNat < f + 1) : ((k + (-1)).toInt - (5 : Int32).toInt).toNat < f := by
  refine ms_dn (fun z => h ?_) hm
  rw [Int32.le_iff_toInt_le] at z
  rw [Int32.lt_iff_toInt_lt]
  have : (5 : Int32).toInt = 5 := rfl
  have : (6 : Int32).toInt = 6 := rfl
  omega
def S_X8_add (τ : Nat → Int32) (ch : Int32) : (Nat → Int32) := if 100 ≤ (τ 0) then (τ) else (let r3 : Nat → Int32 := S_put τ 1 1 100 (τ 0) ch; va_up r3 0 ((r3 0) + 1))
set_option maxRecDepth 100000 in
set_option maxHeartbeats 4000000 in
theorem c_X8_add {G : Geo} {l : Launch} (hG : GOK G) {g : Nat} {h : Hp} {τ : Nat → Int32} (ch : Int32) (hT_g : gT G g = 6) (hr_g : h g = τ) : CM G l yX8_add cX8_add 2 none 1 22 [.ref (gA G g 0), .int ch] h (va_up h g (S_X8_add τ ch)) none := by
  obtain ⟨Z, hZ⟩ : ∃ Z, S_X8_add τ ch = Z := ⟨_, rfl⟩
  rw [hZ]
  refine q_enter hG mf_X8_add (Nat.le_of_ble_eq_true rfl) ?_
  intro p e s m below meth c X hret
  refine q_lv (lv2 := [(0, .ref (gA G g 0)), (1, .int ch)]) rfl ?_
  refine q_aload_n X 0 dX8_add_0 rfl ?_
  refine q_geti (fk := 1) (x := τ 0) X cf_X8 (ac_6_0 hT_g) (by decide) fl_X8_15 rfl rfl dX8_add_1 (hr_g) rfl ?_
  refine q_bipush (v := 100) X dX8_add_4 (by decide) ?_
  suffices hJ5 : ∀ (m2 : Nat → Int32), m2 = (if 100 ≤ (τ 0) then (τ) else (let r3 : Nat → Int32 := S_put τ 1 1 100 (τ 0) ch; va_up r3 0 ((r3 0) + 1))) → VV G (AA G) p l e { frames := 1, cells := 0, slots := 0, locals := 22 } s m ([.ref (gA G g 0), .int ch] : List Value).toArray below meth c 0 0 (MQ below (QC G (va_up h g Z) none) ([.ref (gA G g 0), .int ch] : List Value).toArray s 0 0 (AA G)) 2 (va_up h g m2) 31 [(0, .ref (gA G g 0)), (1, .int ch)] [] by
    refine q_icmp_ge (tgt := 31) X dX8_add_6 (by decide) (fun c1 => ?_) (fun c1 => ?_)
    · skip
      refine q_sub (lv2 := [(0, .ref (gA G g 0)), (1, .int ch)]) [0, 1] rfl ?_
      refine q_eq (h2 := va_up h g τ) (va_up_id2 (hr_g)).symm rfl ?_
      exact hJ5 τ (by exact ((if_pos c1).trans rfl).symm)
    · skip
      refine q_aload_n X 0 dX8_add_9 rfl ?_
      refine q_get (fk := 0) (v := .ref (gA G g 1)) X cf_X8 (ac_6_0 hT_g) (by decide) fl_X8_9 rfl rfl dX8_add_10 rfl ?_
      refine q_aload_n X 0 dX8_add_13 rfl ?_
      refine q_geti (fk := 1) (x := τ 0) X cf_X8 (ac_6_0 hT_g) (by decide) fl_X8_15 rfl rfl dX8_add_14 (hr_g) rfl ?_
      refine q_iload_n X 1 dX8_add_17 rfl ?_
      obtain ⟨r3, e_r3⟩ : ∃ z : Nat → Int32, z = S_put τ 1 1 100 (τ 0) ch := ⟨_, rfl⟩
      refine q_callSN (h1 := _) (rest := []) (As := [.ref (gA G g 1), .int (τ 0), .int ch]) X (c_X9_put (l := l) hG (n := 100) (row := τ) (τ 0) ch (ac_6_1 hT_g) (hr_g) (by rw [hT_g]; rfl)) mf_X9_put ms_X9_put ln_X8_19 rfl ⟨by decide, by decide⟩ ⟨Nat.le_refl _, Nat.le_refl _⟩ rfl (Nat.le_of_ble_eq_true rfl) dX8_add_18 (st2 := []) rfl ?_
      refine q_eq (h2 := va_up h g r3) (by rw [e_r3]) rfl ?_
      refine q_aload_n X 0 dX8_add_21 rfl ?_
      refine q_dup X dX8_add_22 rfl ?_
      refine q_geti (fk := 1) (x := r3 0) X cf_X8 (ac_6_0 hT_g) (by decide) fl_X8_15 rfl rfl dX8_add_23 (va_up_self _ _ _) rfl ?_
      refine q_iconst (v := 1) X dX8_add_26 (by decide) ?_
      refine q_iadd X dX8_add_27 ?_
      obtain ⟨r4, e_r4⟩ : ∃ z : Nat → Int32, z = va_up r3 0 ((r3 0) + 1) := ⟨_, rfl⟩
      refine q_put (fk := 1) (h2 := va_up h g r4) X cf_X8 (ac_6_0 hT_g) (by decide) fl_X8_15 rfl rfl (by rw [hT_g]; rfl) rfl rfl rfl dX8_add_28 (va_up_self _ _ _) (by rw [e_r4, va_up_up]) ?_
      refine q_sub (lv2 := [(0, .ref (gA G g 0)), (1, .int ch)]) [0, 1] rfl ?_
      exact hJ5 r4 (by subst e_r4; subst e_r3; exact ((if_neg c1).trans rfl).symm)
  intro m2 e_m2
  have E : Z = m2 := by subst e_m2; exact hZ.symm.trans (rfl)
  exact q_vret X hret dX8_add_31 rfl (by rw [E])
def S_X8_character (τ : Nat → Int32) (of : Int32) : Int32 := if (τ 0) ≤ of then (0) else (S_at τ 1 1 100 of)
set_option maxRecDepth 100000 in
set_option maxHeartbeats 4000000 in
theorem c_X8_character {G : Geo} {l : Launch} (hG : GOK G) {g : Nat} {h : Hp} {τ : Nat → Int32} (of : Int32) (hT_g : gT G g = 6) (hr_g : h g = τ) : CM G l yX8_character cX8_character 2 (some .int) 1 21 [.ref (gA G g 0), .int of] h h (some (.int (S_X8_character τ of))) := by
  obtain ⟨Z, hZ⟩ : ∃ Z, S_X8_character τ of = Z := ⟨_, rfl⟩
  rw [hZ]
  refine q_enter hG mf_X8_character (Nat.le_of_ble_eq_true rfl) ?_
  intro p e s m below meth c X hret
  refine q_lv (lv2 := [(0, .ref (gA G g 0)), (1, .int of)]) rfl ?_
  refine q_iload_n X 1 dX8_character_0 rfl ?_
  refine q_aload_n X 0 dX8_character_1 rfl ?_
  refine q_geti (fk := 1) (x := τ 0) X cf_X8 (ac_6_0 hT_g) (by decide) fl_X8_15 rfl rfl dX8_character_2 (hr_g) rfl ?_
  suffices hJ3 : ∀ (m2 : Int32), m2 = (if (τ 0) ≤ of then (0) else (S_at τ 1 1 100 of)) → VV G (AA G) p l e { frames := 1, cells := 0, slots := 0, locals := 21 } s m ([.ref (gA G g 0), .int of] : List Value).toArray below meth c 0 0 (MQ below (QC G h (some (.int Z))) ([.ref (gA G g 0), .int of] : List Value).toArray s 0 0 (AA G)) 2 h 20 [(0, .ref (gA G g 0)), (1, .int of)] [.int m2] by
    refine q_icmp_ge (tgt := 19) X dX8_character_5 (by decide) (fun c1 => ?_) (fun c1 => ?_)
    · skip
      refine q_iconst (v := 0) X dX8_character_19 (by decide) ?_
      refine q_sub (lv2 := [(0, .ref (gA G g 0)), (1, .int of)]) [0, 1] rfl ?_
      exact hJ3 0 (by exact ((if_pos c1).trans rfl).symm)
    · skip
      refine q_aload_n X 0 dX8_character_8 rfl ?_
      refine q_get (fk := 0) (v := .ref (gA G g 1)) X cf_X8 (ac_6_0 hT_g) (by decide) fl_X8_9 rfl rfl dX8_character_9 rfl ?_
      refine q_iload_n X 1 dX8_character_12 rfl ?_
      refine q_callSN (h1 := _) (rest := []) (As := [.ref (gA G g 1), .int of]) X (c_X9_at (l := l) hG (n := 100) (row := τ) of (ac_6_1 hT_g) (hr_g) (by rw [hT_g]; rfl)) mf_X9_at ms_X9_at ln_X8_23 rfl ⟨by decide, by decide⟩ ⟨Nat.le_refl _, Nat.le_refl _⟩ rfl (Nat.le_of_ble_eq_true rfl) dX8_character_13 (st2 := [.int (S_at τ 1 1 100 of)]) rfl ?_
      refine q_goto (tgt := 20) X dX8_character_16 (by decide) ?_
      refine q_sub (lv2 := [(0, .ref (gA G g 0)), (1, .int of)]) [0, 1] rfl ?_
      exact hJ3 (S_at τ 1 1 100 of) (by exact ((if_neg c1).trans rfl).symm)
  intro m2 e_m2
  have E : Z = m2 := by subst e_m2; exact hZ.symm.trans (rfl)
  exact q_iret X hret dX8_character_20 (by rw [E]) rfl
def S_X8_isDigit (τ : Nat → Int32) (of : Int32) : Int32 := S_X9_inRange (S_X8_character τ of) 48 57
set_option maxRecDepth 100000 in
set_option maxHeartbeats 4000000 in
theorem c_X8_isDigit {G : Geo} {l : Launch} (hG : GOK G) {g : Nat} {h : Hp} {τ : Nat → Int32} (of : Int32) (hT_g : gT G g = 6) (hr_g : h g = τ) : CM G l yX8_isDigit cX8_isDigit 2 (some .boolean) 2 42 [.ref (gA G g 0), .int of] h h (some (.int (S_X8_isDigit τ of))) := by
  obtain ⟨Z, hZ⟩ : ∃ Z, S_X8_isDigit τ of = Z := ⟨_, rfl⟩
  rw [hZ]
  refine q_enter hG mf_X8_isDigit (Nat.le_of_ble_eq_true rfl) ?_
  intro p e s m below meth c X hret
  refine q_lv (lv2 := [(0, .ref (gA G g 0)), (1, .int of)]) rfl ?_
  refine q_aload_n X 0 dX8_isDigit_0 rfl ?_
  refine q_iload_n X 1 dX8_isDigit_1 rfl ?_
  refine q_callV (h1 := _) (rest := []) (As := [.int of]) X (c_X8_character (l := l) hG (τ := τ)  of hT_g (hr_g)) mf_X8_character mv_X8_character cf_X8 rfl (ac_6_0 hT_g) lk_X8_27 rfl ⟨by decide, by decide⟩ ⟨Nat.le_refl _, Nat.le_refl _⟩ rfl (Nat.le_of_ble_eq_true rfl) dX8_isDigit_2 (st2 := [.int (S_X8_character τ of)]) rfl ?_
  refine q_bipush (v := 48) X dX8_isDigit_5 (by decide) ?_
  refine q_bipush (v := 57) X dX8_isDigit_7 (by decide) ?_
  refine q_callSN (h1 := _) (rest := []) (As := [.int (S_X8_character τ of), .int 48, .int 57]) X (c_X9_inRange (l := l) hG   (S_X8_character τ of) 48 57 ) mf_X9_inRange ms_X9_inRange ln_X8_31 rfl ⟨by decide, by decide⟩ ⟨Nat.le_refl _, Nat.le_refl _⟩ rfl (Nat.le_of_ble_eq_true rfl) dX8_isDigit_9 (st2 := [.int (S_X9_inRange (S_X8_character τ of) 48 57)]) rfl ?_
  have E : Z = S_X9_inRange (S_X8_character τ of) 48 57 := by exact hZ.symm.trans (rfl)
  exact q_zret X hret (z01 (Z_X9_inRange ..)) dX8_isDigit_12 (by rw [E]) rfl
theorem Z_X8_isDigit (τ : Nat → Int32) (of : Int32) : (S_X8_isDigit τ of) = 0 ∨ (S_X8_isDigit τ of) = 1 := by
  unfold S_X8_isDigit
  exact Z_X9_inRange ..
def L_X8_afterSpaces_4 (fu : Nat) (τ : Nat → Int32) (of : Int32) (en : Int32) (k : Int32) : Int32 := match fu with
  | 0 => 0
  | fu + 1 => if 100 ≤ k then (en) else (if (S_X8_character τ en) = 32 then (L_X8_afterSpaces_4 fu τ of (en + 1) (k + 1)) else (en))
def S_X8_afterSpaces (τ : Nat → Int32) (of : Int32) : Int32 := L_X8_afterSpaces_4 101 τ of of 0
set_option maxRecDepth 100000 in
set_option maxHeartbeats 4000000 in
theorem w_X8_afterSpaces_4 {G : Geo} {p : Program} {l : Launch} {e : Env} {s : State} {m : MethodId} {args : Array Value} {below : List Frame} {meth : Method} {c : Code} {h : Hp} {g : Nat} {τ : Nat → Int32} {of : Int32} (X : CX G (AA G) p s m meth c RX8 cX8_afterSpaces 4) (hret : meth.sig.returnType = (some .int)) (hT_g : gT G g = 6) (hr_g : h g = τ) (Z : Int32) : ∀ (fu : Nat) (en : Int32) (k : Int32), ((100 : Int32).toInt - k.toInt).toNat < fu → L_X8_afterSpaces_4 fu τ of en k = Z → VV G (AA G) p l e { frames := 2, cells := 0, slots := 0, locals := 42 } s m args below meth c 0 0 (MQ below (QC G h (some (.int Z))) args s 0 0 (AA G)) 4 h 4 [(0, .ref (gA G g 0)), (1, .int of), (2, .int en), (3, .int k)] [] := by
  intro fu
  induction fu with
  | zero =>
    intro en k  hm
    exact absurd hm (Nat.not_lt_zero _)
  | succ fu ih =>
    intro en k  hm hZ
    have hG := X.2.2.2.2.2.1
    refine q_iload_n X 3 dX8_afterSpaces_4 rfl ?_
    refine q_bipush (v := 100) X dX8_afterSpaces_5 (by decide) ?_
    refine q_icmp_ge (tgt := 29) X dX8_afterSpaces_7 (by decide) (fun c1 => ?_) (fun c1 => ?_)
    · skip
      refine q_iload_n X 2 dX8_afterSpaces_29 rfl ?_
      have E : Z = en := by exact hZ.symm.trans ((if_pos c1).trans rfl)
      exact q_iret X hret dX8_afterSpaces_30 (by rw [E]) rfl
    · skip
      refine q_aload_n X 0 dX8_afterSpaces_10 rfl ?_
      refine q_iload_n X 2 dX8_afterSpaces_11 rfl ?_
      refine q_callV (h1 := _) (rest := []) (As := [.int en]) X (c_X8_character (l := l) hG (τ := τ)  en hT_g (hr_g)) mf_X8_character mv_X8_character cf_X8 rfl (ac_6_0 hT_g) lk_X8_27 rfl ⟨by decide, by decide⟩ ⟨Nat.le_refl _, Nat.le_refl _⟩ rfl (Nat.le_of_ble_eq_true rfl) dX8_afterSpaces_12 (st2 := [.int (S_X8_character τ en)]) rfl ?_
      refine q_bipush (v := 32) X dX8_afterSpaces_15 (by decide) ?_
      refine q_icmp_ne (tgt := 29) X dX8_afterSpaces_17 (by decide) (fun c2 => ?_) (fun c2 => ?_)
      · skip
        refine q_iload_n X 2 dX8_afterSpaces_29 rfl ?_
        have E : Z = en := by exact hZ.symm.trans ((if_neg c1).trans ((if_neg c2).trans rfl))
        exact q_iret X hret dX8_afterSpaces_30 (by rw [E]) rfl
      · skip
        refine q_iinc (v := en + 1) (lv' := [(2, .int (en + 1)), (0, .ref (gA G g 0)), (1, .int of), (3, .int k)]) X 2 dX8_afterSpaces_20 rfl rfl (by decide) rfl ?_
        refine q_iinc (v := k + 1) (lv' := [(3, .int (k + 1)), (2, .int (en + 1)), (0, .ref (gA G g 0)), (1, .int of)]) X 3 dX8_afterSpaces_23 rfl rfl (by decide) rfl ?_
        refine q_goto (tgt := 4) X dX8_afterSpaces_26 (by decide) ?_
        refine q_sub (lv2 := [(0, .ref (gA G g 0)), (1, .int of), (2, .int (en + 1)), (3, .int (k + 1))]) [2, 3, 1, 0] rfl ?_
        have E : L_X8_afterSpaces_4 fu τ of (en + 1) (k + 1) = Z := Eq.trans (Eq.symm (by exact (if_neg c1).trans ((if_pos c2).trans rfl))) hZ
        exact ih (en + 1) (k + 1)  (by exact ms_up c1 hm) E
set_option maxRecDepth 100000 in
set_option maxHeartbeats 4000000 in
theorem c_X8_afterSpaces {G : Geo} {l : Launch} (hG : GOK G) {g : Nat} {h : Hp} {τ : Nat → Int32} (of : Int32) (hT_g : gT G g = 6) (hr_g : h g = τ) : CM G l yX8_afterSpaces cX8_afterSpaces 4 (some .int) 2 42 [.ref (gA G g 0), .int of] h h (some (.int (S_X8_afterSpaces τ of))) := by
  obtain ⟨Z, hZ⟩ : ∃ Z, S_X8_afterSpaces τ of = Z := ⟨_, rfl⟩
  rw [hZ]
  refine q_enter hG mf_X8_afterSpaces (Nat.le_of_ble_eq_true rfl) ?_
  intro p e s m below meth c X hret
  refine q_lv (lv2 := [(0, .ref (gA G g 0)), (1, .int of)]) rfl ?_
  refine q_iload_n X 1 dX8_afterSpaces_0 rfl ?_
  refine q_istore_n (lv' := [(2, .int of), (0, .ref (gA G g 0)), (1, .int of)]) X dX8_afterSpaces_1 (by decide) rfl ?_
  refine q_iconst (v := 0) X dX8_afterSpaces_2 (by decide) ?_
  refine q_istore_n (lv' := [(3, .int 0), (2, .int of), (0, .ref (gA G g 0)), (1, .int of)]) X dX8_afterSpaces_3 (by decide) rfl ?_
  refine q_sub (lv2 := [(0, .ref (gA G g 0)), (1, .int of), (2, .int of), (3, .int 0)]) [2, 3, 1, 0] rfl ?_
  have E : L_X8_afterSpaces_4 101 τ of of 0 = Z := Eq.trans (Eq.symm (by exact rfl)) hZ
  exact w_X8_afterSpaces_4 X hret hT_g hr_g Z 101 of 0  (by decide) E
def L_X8_afterToken_6 (fu : Nat) (τ : Nat → Int32) (of : Int32) (en : Int32) (k : Int32) : Int32 := match fu with
  | 0 => 0
  | fu + 1 => if 100 ≤ k then (en) else (if (S_X8_isDigit τ of) = 0 then (en) else (if (S_X8_isDigit τ en) = 0 then (en) else (L_X8_afterToken_6 fu τ of (en + 1) (k + 1))))
def S_X8_afterToken (τ : Nat → Int32) (of : Int32) : Int32 := L_X8_afterToken_6 101 τ of (of + 1) 0
set_option maxRecDepth 100000 in
set_option maxHeartbeats 4000000 in
theorem w_X8_afterToken_6 {G : Geo} {p : Program} {l : Launch} {e : Env} {s : State} {m : MethodId} {args : Array Value} {below : List Frame} {meth : Method} {c : Code} {h : Hp} {g : Nat} {τ : Nat → Int32} {of : Int32} (X : CX G (AA G) p s m meth c RX8 cX8_afterToken 4) (hret : meth.sig.returnType = (some .int)) (hT_g : gT G g = 6) (hr_g : h g = τ) (Z : Int32) : ∀ (fu : Nat) (en : Int32) (k : Int32), ((100 : Int32).toInt - k.toInt).toNat < fu → L_X8_afterToken_6 fu τ of en k = Z → VV G (AA G) p l e { frames := 3, cells := 0, slots := 0, locals := 63 } s m args below meth c 0 0 (MQ below (QC G h (some (.int Z))) args s 0 0 (AA G)) 4 h 6 [(0, .ref (gA G g 0)), (1, .int of), (2, .int en), (3, .int k)] [] := by
  intro fu
  induction fu with
  | zero =>
    intro en k  hm
    exact absurd hm (Nat.not_lt_zero _)
  | succ fu ih =>
    intro en k  hm hZ
    have hG := X.2.2.2.2.2.1
    refine q_iload_n X 3 dX8_afterToken_6 rfl ?_
    refine q_bipush (v := 100) X dX8_afterToken_7 (by decide) ?_
    refine q_icmp_ge (tgt := 37) X dX8_afterToken_9 (by decide) (fun c1 => ?_) (fun c1 => ?_)
    · skip
      refine q_iload_n X 2 dX8_afterToken_37 rfl ?_
      have E : Z = en := by exact hZ.symm.trans ((if_pos c1).trans rfl)
      exact q_iret X hret dX8_afterToken_38 (by rw [E]) rfl
    · skip
      refine q_aload_n X 0 dX8_afterToken_12 rfl ?_
      refine q_iload_n X 1 dX8_afterToken_13 rfl ?_
      refine q_callV (h1 := _) (rest := []) (As := [.int of]) X (c_X8_isDigit (l := l) hG (τ := τ)  of hT_g (hr_g)) mf_X8_isDigit mv_X8_isDigit cf_X8 rfl (ac_6_0 hT_g) lk_X8_35 rfl ⟨by decide, by decide⟩ ⟨Nat.le_refl _, Nat.le_refl _⟩ rfl (Nat.le_of_ble_eq_true rfl) dX8_afterToken_14 (st2 := [.int (S_X8_isDigit τ of)]) rfl ?_
      refine q_if_eq (tgt := 37) X dX8_afterToken_17 (by decide) (fun c2 => ?_) (fun c2 => ?_)
      · skip
        refine q_iload_n X 2 dX8_afterToken_37 rfl ?_
        have E : Z = en := by exact hZ.symm.trans ((if_neg c1).trans ((if_pos c2).trans rfl))
        exact q_iret X hret dX8_afterToken_38 (by rw [E]) rfl
      · skip
        refine q_aload_n X 0 dX8_afterToken_20 rfl ?_
        refine q_iload_n X 2 dX8_afterToken_21 rfl ?_
        refine q_callV (h1 := _) (rest := []) (As := [.int en]) X (c_X8_isDigit (l := l) hG (τ := τ)  en hT_g (hr_g)) mf_X8_isDigit mv_X8_isDigit cf_X8 rfl (ac_6_0 hT_g) lk_X8_35 rfl ⟨by decide, by decide⟩ ⟨Nat.le_refl _, Nat.le_refl _⟩ rfl (Nat.le_of_ble_eq_true rfl) dX8_afterToken_22 (st2 := [.int (S_X8_isDigit τ en)]) rfl ?_
        refine q_if_eq (tgt := 37) X dX8_afterToken_25 (by decide) (fun c3 => ?_) (fun c3 => ?_)
        · skip
          refine q_iload_n X 2 dX8_afterToken_37 rfl ?_
          have E : Z = en := by exact hZ.symm.trans ((if_neg c1).trans ((if_neg c2).trans ((if_pos c3).trans rfl)))
          exact q_iret X hret dX8_afterToken_38 (by rw [E]) rfl
        · skip
          refine q_iinc (v := en + 1) (lv' := [(2, .int (en + 1)), (0, .ref (gA G g 0)), (1, .int of), (3, .int k)]) X 2 dX8_afterToken_28 rfl rfl (by decide) rfl ?_
          refine q_iinc (v := k + 1) (lv' := [(3, .int (k + 1)), (2, .int (en + 1)), (0, .ref (gA G g 0)), (1, .int of)]) X 3 dX8_afterToken_31 rfl rfl (by decide) rfl ?_
          refine q_goto (tgt := 6) X dX8_afterToken_34 (by decide) ?_
          refine q_sub (lv2 := [(0, .ref (gA G g 0)), (1, .int of), (2, .int (en + 1)), (3, .int (k + 1))]) [2, 3, 1, 0] rfl ?_
          have E : L_X8_afterToken_6 fu τ of (en + 1) (k + 1) = Z := Eq.trans (Eq.symm (by exact (if_neg c1).trans ((if_neg c2).trans ((if_neg c3).trans rfl)))) hZ
          exact ih (en + 1) (k + 1)  (by exact ms_up c1 hm) E
set_option maxRecDepth 100000 in
set_option maxHeartbeats 4000000 in
theorem c_X8_afterToken {G : Geo} {l : Launch} (hG : GOK G) {g : Nat} {h : Hp} {τ : Nat → Int32} (of : Int32) (hT_g : gT G g = 6) (hr_g : h g = τ) : CM G l yX8_afterToken cX8_afterToken 4 (some .int) 3 63 [.ref (gA G g 0), .int of] h h (some (.int (S_X8_afterToken τ of))) := by
  obtain ⟨Z, hZ⟩ : ∃ Z, S_X8_afterToken τ of = Z := ⟨_, rfl⟩
  rw [hZ]
  refine q_enter hG mf_X8_afterToken (Nat.le_of_ble_eq_true rfl) ?_
  intro p e s m below meth c X hret
  refine q_lv (lv2 := [(0, .ref (gA G g 0)), (1, .int of)]) rfl ?_
  refine q_iload_n X 1 dX8_afterToken_0 rfl ?_
  refine q_iconst (v := 1) X dX8_afterToken_1 (by decide) ?_
  refine q_iadd X dX8_afterToken_2 ?_
  refine q_istore_n (lv' := [(2, .int (of + 1)), (0, .ref (gA G g 0)), (1, .int of)]) X dX8_afterToken_3 (by decide) rfl ?_
  refine q_iconst (v := 0) X dX8_afterToken_4 (by decide) ?_
  refine q_istore_n (lv' := [(3, .int 0), (2, .int (of + 1)), (0, .ref (gA G g 0)), (1, .int of)]) X dX8_afterToken_5 (by decide) rfl ?_
  refine q_sub (lv2 := [(0, .ref (gA G g 0)), (1, .int of), (2, .int (of + 1)), (3, .int 0)]) [2, 3, 1, 0] rfl ?_
  have E : L_X8_afterToken_6 101 τ of (of + 1) 0 = Z := Eq.trans (Eq.symm (by exact rfl)) hZ
  exact w_X8_afterToken_6 X hret hT_g hr_g Z 101 (of + 1) 0  (by decide) E
def L_X8_numberIn_32 (fu : Nat) (τ : Nat → Int32) (sa : Int32) (en : Int32) (nu : Int32) (k : Int32) : Int32 := match fu with
  | 0 => 0
  | fu + 1 => if en ≤ k then (nu) else (L_X8_numberIn_32 fu τ sa en (S_J9_min_7cf53 (((nu * 10) + (S_X8_character τ k)) - 48) 100000) (k + 1))
def S_X8_numberIn (τ : Nat → Int32) (sa : Int32) (en : Int32) : Int32 := if (S_X8_isDigit τ sa) = 0 then ((-1)) else (if (S_X8_character τ sa) = 48 then (if en ≤ (sa + 1) then (L_X8_numberIn_32 ((en.toInt - sa.toInt).toNat + 1) τ sa en 0 sa) else ((-1))) else (L_X8_numberIn_32 ((en.toInt - sa.toInt).toNat + 1) τ sa en 0 sa))
set_option maxRecDepth 100000 in
set_option maxHeartbeats 4000000 in
theorem w_X8_numberIn_32 {G : Geo} {p : Program} {l : Launch} {e : Env} {s : State} {m : MethodId} {args : Array Value} {below : List Frame} {meth : Method} {c : Code} {h : Hp} {g : Nat} {τ : Nat → Int32} {sa : Int32} {en : Int32} (X : CX G (AA G) p s m meth c RX8 cX8_numberIn 5) (hret : meth.sig.returnType = (some .int)) (hT_g : gT G g = 6) (hr_g : h g = τ) (Z : Int32) : ∀ (fu : Nat) (nu : Int32) (k : Int32), (en.toInt - k.toInt).toNat < fu → L_X8_numberIn_32 fu τ sa en nu k = Z → VV G (AA G) p l e { frames := 3, cells := 0, slots := 0, locals := 63 } s m args below meth c 0 0 (MQ below (QC G h (some (.int Z))) args s 0 0 (AA G)) 5 h 32 [(0, .ref (gA G g 0)), (1, .int sa), (2, .int en), (3, .int nu), (4, .int k)] [] := by
  intro fu
  induction fu with
  | zero =>
    intro nu k  hm
    exact absurd hm (Nat.not_lt_zero _)
  | succ fu ih =>
    intro nu k  hm hZ
    have hG := X.2.2.2.2.2.1
    refine q_iload X 4 dX8_numberIn_32 rfl ?_
    refine q_iload_n X 2 dX8_numberIn_34 rfl ?_
    refine q_icmp_ge (tgt := 64) X dX8_numberIn_35 (by decide) (fun c4 => ?_) (fun c4 => ?_)
    · skip
      refine q_iload_n X 3 dX8_numberIn_64 rfl ?_
      have E : Z = nu := by exact hZ.symm.trans ((if_pos c4).trans rfl)
      exact q_iret X hret dX8_numberIn_65 (by rw [E]) rfl
    · skip
      refine q_iload_n X 3 dX8_numberIn_38 rfl ?_
      refine q_bipush (v := 10) X dX8_numberIn_39 (by decide) ?_
      refine q_imul X dX8_numberIn_41 ?_
      refine q_aload_n X 0 dX8_numberIn_42 rfl ?_
      refine q_iload X 4 dX8_numberIn_43 rfl ?_
      refine q_callV (h1 := _) (rest := [.int (nu * 10)]) (As := [.int k]) X (c_X8_character (l := l) hG (τ := τ)  k hT_g (hr_g)) mf_X8_character mv_X8_character cf_X8 rfl (ac_6_0 hT_g) lk_X8_27 rfl ⟨by decide, by decide⟩ ⟨Nat.le_refl _, Nat.le_refl _⟩ rfl (Nat.le_of_ble_eq_true rfl) dX8_numberIn_45 (st2 := [.int (S_X8_character τ k), .int (nu * 10)]) rfl ?_
      refine q_iadd X dX8_numberIn_48 ?_
      refine q_bipush (v := 48) X dX8_numberIn_49 (by decide) ?_
      refine q_isub X dX8_numberIn_51 ?_
      refine q_ldc X kc_X8_39 dX8_numberIn_52 ?_
      refine q_callS (h1 := _) (rest := []) (As := [.int (((nu * 10) + (S_X8_character τ k)) - 48), .int 100000]) X (c_J9_min_7cf53 (l := l) hG   (((nu * 10) + (S_X8_character τ k)) - 48) 100000 ) mf_J9_min_7cf53 ms_J9_min_7cf53 lk_X8_40 rfl ⟨by decide, by decide⟩ ⟨Nat.le_refl _, Nat.le_refl _⟩ rfl (Nat.le_of_ble_eq_true rfl) dX8_numberIn_54 (st2 := [.int (S_J9_min_7cf53 (((nu * 10) + (S_X8_character τ k)) - 48) 100000)]) rfl ?_
      refine q_istore_n (lv' := [(3, .int (S_J9_min_7cf53 (((nu * 10) + (S_X8_character τ k)) - 48) 100000)), (0, .ref (gA G g 0)), (1, .int sa), (2, .int en), (4, .int k)]) X dX8_numberIn_57 (by decide) rfl ?_
      refine q_iinc (v := k + 1) (lv' := [(4, .int (k + 1)), (3, .int (S_J9_min_7cf53 (((nu * 10) + (S_X8_character τ k)) - 48) 100000)), (0, .ref (gA G g 0)), (1, .int sa), (2, .int en)]) X 4 dX8_numberIn_58 rfl rfl (by decide) rfl ?_
      refine q_goto (tgt := 32) X dX8_numberIn_61 (by decide) ?_
      refine q_sub (lv2 := [(0, .ref (gA G g 0)), (1, .int sa), (2, .int en), (3, .int (S_J9_min_7cf53 (((nu * 10) + (S_X8_character τ k)) - 48) 100000)), (4, .int (k + 1))]) [2, 3, 4, 1, 0] rfl ?_
      have E : L_X8_numberIn_32 fu τ sa en (S_J9_min_7cf53 (((nu * 10) + (S_X8_character τ k)) - 48) 100000) (k + 1) = Z := Eq.trans (Eq.symm (by exact (if_neg c4).trans rfl)) hZ
      exact ih (S_J9_min_7cf53 (((nu * 10) + (S_X8_character τ k)) - 48) 100000) (k + 1)  (by exact ms_up c4 hm) E
set_option maxRecDepth 100000 in
set_option maxHeartbeats 4000000 in
theorem c_X8_numberIn {G : Geo} {l : Launch} (hG : GOK G) {g : Nat} {h : Hp} {τ : Nat → Int32} (sa : Int32) (en : Int32) (hT_g : gT G g = 6) (hr_g : h g = τ) : CM G l yX8_numberIn cX8_numberIn 5 (some .int) 3 63 [.ref (gA G g 0), .int sa, .int en] h h (some (.int (S_X8_numberIn τ sa en))) := by
  obtain ⟨Z, hZ⟩ : ∃ Z, S_X8_numberIn τ sa en = Z := ⟨_, rfl⟩
  rw [hZ]
  refine q_enter hG mf_X8_numberIn (Nat.le_of_ble_eq_true rfl) ?_
  intro p e s m below meth c X hret
  refine q_lv (lv2 := [(0, .ref (gA G g 0)), (1, .int sa), (2, .int en)]) rfl ?_
  refine q_aload_n X 0 dX8_numberIn_0 rfl ?_
  refine q_iload_n X 1 dX8_numberIn_1 rfl ?_
  refine q_callV (h1 := _) (rest := []) (As := [.int sa]) X (c_X8_isDigit (l := l) hG (τ := τ)  sa hT_g (hr_g)) mf_X8_isDigit mv_X8_isDigit cf_X8 rfl (ac_6_0 hT_g) lk_X8_35 rfl ⟨by decide, by decide⟩ ⟨Nat.le_refl _, Nat.le_refl _⟩ rfl (Nat.le_of_ble_eq_true rfl) dX8_numberIn_2 (st2 := [.int (S_X8_isDigit τ sa)]) rfl ?_
  refine q_if_eq (tgt := 25) X dX8_numberIn_5 (by decide) (fun c1 => ?_) (fun c1 => ?_)
  · skip
    refine q_iconst (v := (-1)) X dX8_numberIn_25 (by decide) ?_
    have E : Z = (-1) := by exact hZ.symm.trans ((if_pos c1).trans rfl)
    exact q_iret X hret dX8_numberIn_26 (by rw [E]) rfl
  · skip
    refine q_aload_n X 0 dX8_numberIn_8 rfl ?_
    refine q_iload_n X 1 dX8_numberIn_9 rfl ?_
    refine q_callV (h1 := _) (rest := []) (As := [.int sa]) X (c_X8_character (l := l) hG (τ := τ)  sa hT_g (hr_g)) mf_X8_character mv_X8_character cf_X8 rfl (ac_6_0 hT_g) lk_X8_27 rfl ⟨by decide, by decide⟩ ⟨Nat.le_refl _, Nat.le_refl _⟩ rfl (Nat.le_of_ble_eq_true rfl) dX8_numberIn_10 (st2 := [.int (S_X8_character τ sa)]) rfl ?_
    refine q_bipush (v := 48) X dX8_numberIn_13 (by decide) ?_
    refine q_icmp_ne (tgt := 27) X dX8_numberIn_15 (by decide) (fun c2 => ?_) (fun c2 => ?_)
    · skip
      refine q_iconst (v := 0) X dX8_numberIn_27 (by decide) ?_
      refine q_istore_n (lv' := [(3, .int 0), (0, .ref (gA G g 0)), (1, .int sa), (2, .int en)]) X dX8_numberIn_28 (by decide) rfl ?_
      refine q_iload_n X 2 dX8_numberIn_29 rfl ?_
      refine q_istore (lv' := [(4, .int sa), (3, .int 0), (0, .ref (gA G g 0)), (1, .int sa), (2, .int en)]) X dX8_numberIn_30 (by decide) rfl ?_
      refine q_sub (lv2 := [(0, .ref (gA G g 0)), (1, .int sa), (2, .int en), (3, .int 0), (4, .int sa)]) [2, 3, 4, 1, 0] rfl ?_
      have E : L_X8_numberIn_32 ((en.toInt - sa.toInt).toNat + 1) τ sa en 0 sa = Z := Eq.trans (Eq.symm (by exact (if_neg c1).trans ((if_neg c2).trans rfl))) hZ
      exact w_X8_numberIn_32 X hret hT_g hr_g Z ((en.toInt - sa.toInt).toNat + 1) 0 sa  (by exact Nat.lt_succ_self _) E
    · skip
      refine q_iload_n X 2 dX8_numberIn_18 rfl ?_
      refine q_iload_n X 1 dX8_numberIn_19 rfl ?_
      refine q_iconst (v := 1) X dX8_numberIn_20 (by decide) ?_
      refine q_iadd X dX8_numberIn_21 ?_
      refine q_icmp_le (tgt := 27) X dX8_numberIn_22 (by decide) (fun c3 => ?_) (fun c3 => ?_)
      · skip
        refine q_iconst (v := 0) X dX8_numberIn_27 (by decide) ?_
        refine q_istore_n (lv' := [(3, .int 0), (0, .ref (gA G g 0)), (1, .int sa), (2, .int en)]) X dX8_numberIn_28 (by decide) rfl ?_
        refine q_iload_n X 2 dX8_numberIn_29 rfl ?_
        refine q_istore (lv' := [(4, .int sa), (3, .int 0), (0, .ref (gA G g 0)), (1, .int sa), (2, .int en)]) X dX8_numberIn_30 (by decide) rfl ?_
        refine q_sub (lv2 := [(0, .ref (gA G g 0)), (1, .int sa), (2, .int en), (3, .int 0), (4, .int sa)]) [2, 3, 4, 1, 0] rfl ?_
        have E : L_X8_numberIn_32 ((en.toInt - sa.toInt).toNat + 1) τ sa en 0 sa = Z := Eq.trans (Eq.symm (by exact (if_neg c1).trans ((if_pos c2).trans ((if_pos c3).trans rfl)))) hZ
        exact w_X8_numberIn_32 X hret hT_g hr_g Z ((en.toInt - sa.toInt).toNat + 1) 0 sa  (by exact Nat.lt_succ_self _) E
      · skip
        refine q_iconst (v := (-1)) X dX8_numberIn_25 (by decide) ?_
        have E : Z = (-1) := by exact hZ.symm.trans ((if_neg c1).trans ((if_pos c2).trans ((if_neg c3).trans rfl)))
        exact q_iret X hret dX8_numberIn_26 (by rw [E]) rfl
def S_X2_copyFrom (ρ : Nat → Int32) (ρ2 : Nat → Int32) : (Nat → Int32) := let r1 : Nat → Int32 := S_copy ρ2 ρ 2 1 48; let r2 : Nat → Int32 := va_up r1 1 (ρ2 1); va_up r2 0 (ρ2 0)
set_option maxRecDepth 100000 in
set_option maxHeartbeats 4000000 in
theorem c_X2_copyFrom {G : Geo} {l : Launch} (hG : GOK G) {g g2 : Nat} {h : Hp} {ρ : Nat → Int32} {ρ2 : Nat → Int32} (hT_g : gT G g = 5) (hT_g2 : gT G g2 = 5) (hr_g : h g = ρ) (hr_g2 : h g2 = ρ2) (hne : g2 ≠ g) : CM G l yX2_copyFrom cX2_copyFrom 2 none 2 81 [.ref (gA G g 0), .ref (gA G g2 0)] h (va_up h g (S_X2_copyFrom ρ ρ2)) none := by
  obtain ⟨Z, hZ⟩ : ∃ Z, S_X2_copyFrom ρ ρ2 = Z := ⟨_, rfl⟩
  rw [hZ]
  refine q_enter hG mf_X2_copyFrom (Nat.le_of_ble_eq_true rfl) ?_
  intro p e s m below meth c X hret
  refine q_lv (lv2 := [(0, .ref (gA G g 0)), (1, .ref (gA G g2 0))]) rfl ?_
  refine q_aload_n X 1 dX2_copyFrom_0 rfl ?_
  refine q_get (fk := 0) (v := .ref (gA G g2 1)) X cf_X2 (ac_5_0 hT_g2) (by decide) fl_X2_9 rfl rfl dX2_copyFrom_1 rfl ?_
  refine q_aload_n X 0 dX2_copyFrom_4 rfl ?_
  refine q_get (fk := 0) (v := .ref (gA G g 1)) X cf_X2 (ac_5_0 hT_g) (by decide) fl_X2_9 rfl rfl dX2_copyFrom_5 rfl ?_
  obtain ⟨r1, e_r1⟩ : ∃ z : Nat → Int32, z = S_copy ρ2 ρ 2 1 48 := ⟨_, rfl⟩
  refine q_callSN (h1 := _) (rest := []) (As := [.ref (gA G g2 1), .ref (gA G g 1)]) X (c_X9_copyRow (l := l) hG (n := 48) (frm := ρ2) (row := ρ) (ac_5_1 hT_g2) (ac_5_1 hT_g) (hr_g2) (hr_g) (by rw [hT_g2]; rfl) (by rw [hT_g]; rfl)) mf_X9_copyRow ms_X9_copyRow ln_X2_22 rfl ⟨by decide, by decide⟩ ⟨Nat.le_refl _, Nat.le_refl _⟩ rfl (Nat.le_of_ble_eq_true rfl) dX2_copyFrom_8 (st2 := []) rfl ?_
  refine q_eq (h2 := va_up h g r1) (by rw [e_r1]) rfl ?_
  refine q_aload_n X 0 dX2_copyFrom_11 rfl ?_
  refine q_aload_n X 1 dX2_copyFrom_12 rfl ?_
  refine q_geti (fk := 1) (x := ρ2 1) X cf_X2 (ac_5_0 hT_g2) (by decide) fl_X2_15 rfl rfl dX2_copyFrom_13 ((va_up_ne _ _ hne).trans (hr_g2)) rfl ?_
  obtain ⟨r2, e_r2⟩ : ∃ z : Nat → Int32, z = va_up r1 1 (ρ2 1) := ⟨_, rfl⟩
  refine q_put (fk := 1) (h2 := va_up h g r2) X cf_X2 (ac_5_0 hT_g) (by decide) fl_X2_15 rfl rfl (by rw [hT_g]; rfl) rfl rfl rfl dX2_copyFrom_16 (va_up_self _ _ _) (by rw [e_r2, va_up_up]) ?_
  refine q_aload_n X 0 dX2_copyFrom_19 rfl ?_
  refine q_aload_n X 1 dX2_copyFrom_20 rfl ?_
  refine q_geti (fk := 2) (x := ρ2 0) X cf_X2 (ac_5_0 hT_g2) (by decide) fl_X2_19 rfl rfl dX2_copyFrom_21 ((va_up_ne _ _ hne).trans (hr_g2)) rfl ?_
  obtain ⟨r3, e_r3⟩ : ∃ z : Nat → Int32, z = va_up r2 0 (ρ2 0) := ⟨_, rfl⟩
  refine q_put (fk := 2) (h2 := va_up h g r3) X cf_X2 (ac_5_0 hT_g) (by decide) fl_X2_19 rfl rfl (by rw [hT_g]; rfl) rfl rfl rfl dX2_copyFrom_24 (va_up_self _ _ _) (by rw [e_r3, va_up_up]) ?_
  have E : Z = r3 := by subst e_r3; subst e_r2; subst e_r1; exact hZ.symm.trans (rfl)
  exact q_vret X hret dX2_copyFrom_27 rfl (by rw [E])
def S_X2_property (ρ : Nat → Int32) (ix : Int32) (wh : Int32) : Int32 := S_at ρ 2 1 48 ((ix * 6) + wh)
set_option maxRecDepth 100000 in
set_option maxHeartbeats 4000000 in
theorem c_X2_property {G : Geo} {l : Launch} (hG : GOK G) {g : Nat} {h : Hp} {ρ : Nat → Int32} (ix : Int32) (wh : Int32) (hT_g : gT G g = 5) (hr_g : h g = ρ) : CM G l yX2_property cX2_property 3 (some .int) 1 21 [.ref (gA G g 0), .int ix, .int wh] h h (some (.int (S_X2_property ρ ix wh))) := by
  obtain ⟨Z, hZ⟩ : ∃ Z, S_X2_property ρ ix wh = Z := ⟨_, rfl⟩
  rw [hZ]
  refine q_enter hG mf_X2_property (Nat.le_of_ble_eq_true rfl) ?_
  intro p e s m below meth c X hret
  refine q_lv (lv2 := [(0, .ref (gA G g 0)), (1, .int ix), (2, .int wh)]) rfl ?_
  refine q_aload_n X 0 dX2_property_0 rfl ?_
  refine q_get (fk := 0) (v := .ref (gA G g 1)) X cf_X2 (ac_5_0 hT_g) (by decide) fl_X2_9 rfl rfl dX2_property_1 rfl ?_
  refine q_iload_n X 1 dX2_property_4 rfl ?_
  refine q_bipush (v := 6) X dX2_property_5 (by decide) ?_
  refine q_imul X dX2_property_7 ?_
  refine q_iload_n X 2 dX2_property_8 rfl ?_
  refine q_iadd X dX2_property_9 ?_
  refine q_callSN (h1 := _) (rest := []) (As := [.ref (gA G g 1), .int ((ix * 6) + wh)]) X (c_X9_at (l := l) hG (n := 48) (row := ρ) ((ix * 6) + wh) (ac_5_1 hT_g) (hr_g) (by rw [hT_g]; rfl)) mf_X9_at ms_X9_at ln_X2_26 rfl ⟨by decide, by decide⟩ ⟨Nat.le_refl _, Nat.le_refl _⟩ rfl (Nat.le_of_ble_eq_true rfl) dX2_property_10 (st2 := [.int (S_at ρ 2 1 48 ((ix * 6) + wh))]) rfl ?_
  have E : Z = S_at ρ 2 1 48 ((ix * 6) + wh) := by exact hZ.symm.trans (rfl)
  exact q_iret X hret dX2_property_13 (by rw [E]) rfl
def L_X2_enter_8 (fu : Nat) (ρ : Nat → Int32) (ρ2 : Nat → Int32) (k : Int32) (ρ1 : Nat → Int32) : (Nat → Int32) := match fu with
  | 0 => (fun _ => 0)
  | fu + 1 => if k < 6 then (let r2 : Nat → Int32 := va_up ρ1 0 ((ρ1 0) + 1); let r3 : Nat → Int32 := va_up r2 1 (S_J9_min_7cf53 ((r2 1) + 1) 8); let r4 : Nat → Int32 := S_put r3 2 1 48 0 (r3 0); let r5 : Nat → Int32 := S_put r4 2 1 48 1 (ρ2 18); let r6 : Nat → Int32 := S_put r5 2 1 48 2 (ρ2 23); let r7 : Nat → Int32 := S_put r6 2 1 48 3 (ρ2 24); let r8 : Nat → Int32 := S_put r7 2 1 48 4 (ρ2 19); S_put r8 2 1 48 5 (ρ2 25)) else (let r10 : Nat → Int32 := S_put ρ1 2 1 48 k (S_at ρ1 2 1 48 (k - 6)); L_X2_enter_8 fu ρ ρ2 (k + (-1)) r10)
def S_X2_enter (ρ : Nat → Int32) (ρ2 : Nat → Int32) : (Nat → Int32) := L_X2_enter_8 43 ρ ρ2 (48 - 1) ρ
set_option maxRecDepth 100000 in
set_option maxHeartbeats 4000000 in
theorem w_X2_enter_8 {G : Geo} {p : Program} {l : Launch} {e : Env} {s : State} {m : MethodId} {args : Array Value} {below : List Frame} {meth : Method} {c : Code} {h : Hp} {g g2 : Nat} {ρ : Nat → Int32} {ρ2 : Nat → Int32} (X : CX G (AA G) p s m meth c RX2 cX2_enter 3) (hret : meth.sig.returnType = none) (hT_g : gT G g = 5) (hT_g2 : gT G g2 = 2) (hr_g : h g = ρ) (hr_g2 : h g2 = ρ2) (Z : (Nat → Int32)) : ∀ (fu : Nat) (k : Int32) (ρ1 : Nat → Int32), (k.toInt - (5 : Int32).toInt).toNat < fu → L_X2_enter_8 fu ρ ρ2 k ρ1 = Z → VV G (AA G) p l e { frames := 1, cells := 0, slots := 0, locals := 22 } s m args below meth c 0 0 (MQ below (QC G (va_up h g Z) none) args s 0 0 (AA G)) 3 (va_up h g ρ1) 8 [(0, .ref (gA G g 0)), (1, .ref (gA G g2 2)), (2, .int k)] [] := by
  intro fu
  induction fu with
  | zero =>
    intro k ρ1  hm
    exact absurd hm (Nat.not_lt_zero _)
  | succ fu ih =>
    intro k ρ1  hm hZ
    have hG := X.2.2.2.2.2.1
    refine q_iload_n X 2 dX2_enter_8 rfl ?_
    refine q_bipush (v := 6) X dX2_enter_9 (by decide) ?_
    refine q_icmp_lt (tgt := 39) X dX2_enter_11 (by decide) (fun c1 => ?_) (fun c1 => ?_)
    · skip
      refine q_aload_n X 0 dX2_enter_39 rfl ?_
      refine q_dup X dX2_enter_40 rfl ?_
      refine q_geti (fk := 2) (x := ρ1 0) X cf_X2 (ac_5_0 hT_g) (by decide) fl_X2_19 rfl rfl dX2_enter_41 (va_up_self _ _ _) rfl ?_
      refine q_iconst (v := 1) X dX2_enter_44 (by decide) ?_
      refine q_iadd X dX2_enter_45 ?_
      obtain ⟨r2, e_r2⟩ : ∃ z : Nat → Int32, z = va_up ρ1 0 ((ρ1 0) + 1) := ⟨_, rfl⟩
      refine q_put (fk := 2) (h2 := va_up h g r2) X cf_X2 (ac_5_0 hT_g) (by decide) fl_X2_19 rfl rfl (by rw [hT_g]; rfl) rfl rfl rfl dX2_enter_46 (va_up_self _ _ _) (by rw [e_r2, va_up_up]) ?_
      refine q_aload_n X 0 dX2_enter_49 rfl ?_
      refine q_aload_n X 0 dX2_enter_50 rfl ?_
      refine q_geti (fk := 1) (x := r2 1) X cf_X2 (ac_5_0 hT_g) (by decide) fl_X2_15 rfl rfl dX2_enter_51 (va_up_self _ _ _) rfl ?_
      refine q_iconst (v := 1) X dX2_enter_54 (by decide) ?_
      refine q_iadd X dX2_enter_55 ?_
      refine q_bipush (v := 8) X dX2_enter_56 (by decide) ?_
      refine q_callS (h1 := _) (rest := [.ref (gA G g 0)]) (As := [.int ((r2 1) + 1), .int 8]) X (c_J9_min_7cf53 (l := l) hG   ((r2 1) + 1) 8 ) mf_J9_min_7cf53 ms_J9_min_7cf53 lk_X2_34 rfl ⟨by decide, by decide⟩ ⟨Nat.le_refl _, Nat.le_refl _⟩ rfl (Nat.le_of_ble_eq_true rfl) dX2_enter_58 (st2 := [.int (S_J9_min_7cf53 ((r2 1) + 1) 8), .ref (gA G g 0)]) rfl ?_
      obtain ⟨r3, e_r3⟩ : ∃ z : Nat → Int32, z = va_up r2 1 (S_J9_min_7cf53 ((r2 1) + 1) 8) := ⟨_, rfl⟩
      refine q_put (fk := 1) (h2 := va_up h g r3) X cf_X2 (ac_5_0 hT_g) (by decide) fl_X2_15 rfl rfl (by rw [hT_g]; rfl) rfl rfl rfl dX2_enter_61 (va_up_self _ _ _) (by rw [e_r3, va_up_up]) ?_
      refine q_aload_n X 0 dX2_enter_64 rfl ?_
      refine q_get (fk := 0) (v := .ref (gA G g 1)) X cf_X2 (ac_5_0 hT_g) (by decide) fl_X2_9 rfl rfl dX2_enter_65 rfl ?_
      refine q_iconst (v := 0) X dX2_enter_68 (by decide) ?_
      refine q_aload_n X 0 dX2_enter_69 rfl ?_
      refine q_geti (fk := 2) (x := r3 0) X cf_X2 (ac_5_0 hT_g) (by decide) fl_X2_19 rfl rfl dX2_enter_70 (va_up_self _ _ _) rfl ?_
      obtain ⟨r4, e_r4⟩ : ∃ z : Nat → Int32, z = S_put r3 2 1 48 0 (r3 0) := ⟨_, rfl⟩
      refine q_callSN (h1 := _) (rest := []) (As := [.ref (gA G g 1), .int 0, .int (r3 0)]) X (c_X9_put (l := l) hG (n := 48) (row := r3) 0 (r3 0) (ac_5_1 hT_g) (va_up_self _ _ _) (by rw [hT_g]; rfl)) mf_X9_put ms_X9_put ln_X2_30 rfl ⟨by decide, by decide⟩ ⟨Nat.le_refl _, Nat.le_refl _⟩ rfl (Nat.le_of_ble_eq_true rfl) dX2_enter_73 (st2 := []) rfl ?_
      refine q_eq (h2 := va_up h g r4) (by rw [e_r4]; exact va_up_up _ _ _ _) rfl ?_
      refine q_aload_n X 0 dX2_enter_76 rfl ?_
      refine q_get (fk := 0) (v := .ref (gA G g 1)) X cf_X2 (ac_5_0 hT_g) (by decide) fl_X2_9 rfl rfl dX2_enter_77 rfl ?_
      refine q_iconst (v := 1) X dX2_enter_80 (by decide) ?_
      refine q_aload_n X 1 dX2_enter_81 rfl ?_
      refine q_geti (fk := 2) (x := ρ2 18) X cf_X0 (ac_2_2 hT_g2) (by decide) fl_X2_40 rfl rfl dX2_enter_82 ((va_up_ne _ _ (ne_ty hT_g2 hT_g (by decide))).trans (hr_g2)) rfl ?_
      obtain ⟨r5, e_r5⟩ : ∃ z : Nat → Int32, z = S_put r4 2 1 48 1 (ρ2 18) := ⟨_, rfl⟩
      refine q_callSN (h1 := _) (rest := []) (As := [.ref (gA G g 1), .int 1, .int (ρ2 18)]) X (c_X9_put (l := l) hG (n := 48) (row := r4) 1 (ρ2 18) (ac_5_1 hT_g) (va_up_self _ _ _) (by rw [hT_g]; rfl)) mf_X9_put ms_X9_put ln_X2_30 rfl ⟨by decide, by decide⟩ ⟨Nat.le_refl _, Nat.le_refl _⟩ rfl (Nat.le_of_ble_eq_true rfl) dX2_enter_85 (st2 := []) rfl ?_
      refine q_eq (h2 := va_up h g r5) (by rw [e_r5]; exact va_up_up _ _ _ _) rfl ?_
      refine q_aload_n X 0 dX2_enter_88 rfl ?_
      refine q_get (fk := 0) (v := .ref (gA G g 1)) X cf_X2 (ac_5_0 hT_g) (by decide) fl_X2_9 rfl rfl dX2_enter_89 rfl ?_
      refine q_iconst (v := 2) X dX2_enter_92 (by decide) ?_
      refine q_aload_n X 1 dX2_enter_93 rfl ?_
      refine q_geti (fk := 6) (x := ρ2 23) X cf_X0 (ac_2_2 hT_g2) (by decide) fl_X2_45 rfl rfl dX2_enter_94 ((va_up_ne _ _ (ne_ty hT_g2 hT_g (by decide))).trans (hr_g2)) rfl ?_
      obtain ⟨r6, e_r6⟩ : ∃ z : Nat → Int32, z = S_put r5 2 1 48 2 (ρ2 23) := ⟨_, rfl⟩
      refine q_callSN (h1 := _) (rest := []) (As := [.ref (gA G g 1), .int 2, .int (ρ2 23)]) X (c_X9_put (l := l) hG (n := 48) (row := r5) 2 (ρ2 23) (ac_5_1 hT_g) (va_up_self _ _ _) (by rw [hT_g]; rfl)) mf_X9_put ms_X9_put ln_X2_30 rfl ⟨by decide, by decide⟩ ⟨Nat.le_refl _, Nat.le_refl _⟩ rfl (Nat.le_of_ble_eq_true rfl) dX2_enter_97 (st2 := []) rfl ?_
      refine q_eq (h2 := va_up h g r6) (by rw [e_r6]; exact va_up_up _ _ _ _) rfl ?_
      refine q_aload_n X 0 dX2_enter_100 rfl ?_
      refine q_get (fk := 0) (v := .ref (gA G g 1)) X cf_X2 (ac_5_0 hT_g) (by decide) fl_X2_9 rfl rfl dX2_enter_101 rfl ?_
      refine q_iconst (v := 3) X dX2_enter_104 (by decide) ?_
      refine q_aload_n X 1 dX2_enter_105 rfl ?_
      refine q_geti (fk := 7) (x := ρ2 24) X cf_X0 (ac_2_2 hT_g2) (by decide) fl_X2_48 rfl rfl dX2_enter_106 ((va_up_ne _ _ (ne_ty hT_g2 hT_g (by decide))).trans (hr_g2)) rfl ?_
      obtain ⟨r7, e_r7⟩ : ∃ z : Nat → Int32, z = S_put r6 2 1 48 3 (ρ2 24) := ⟨_, rfl⟩
      refine q_callSN (h1 := _) (rest := []) (As := [.ref (gA G g 1), .int 3, .int (ρ2 24)]) X (c_X9_put (l := l) hG (n := 48) (row := r6) 3 (ρ2 24) (ac_5_1 hT_g) (va_up_self _ _ _) (by rw [hT_g]; rfl)) mf_X9_put ms_X9_put ln_X2_30 rfl ⟨by decide, by decide⟩ ⟨Nat.le_refl _, Nat.le_refl _⟩ rfl (Nat.le_of_ble_eq_true rfl) dX2_enter_109 (st2 := []) rfl ?_
      refine q_eq (h2 := va_up h g r7) (by rw [e_r7]; exact va_up_up _ _ _ _) rfl ?_
      refine q_aload_n X 0 dX2_enter_112 rfl ?_
      refine q_get (fk := 0) (v := .ref (gA G g 1)) X cf_X2 (ac_5_0 hT_g) (by decide) fl_X2_9 rfl rfl dX2_enter_113 rfl ?_
      refine q_iconst (v := 4) X dX2_enter_116 (by decide) ?_
      refine q_aload_n X 1 dX2_enter_117 rfl ?_
      refine q_geti (fk := 3) (x := ρ2 19) X cf_X0 (ac_2_2 hT_g2) (by decide) fl_X2_51 rfl rfl dX2_enter_118 ((va_up_ne _ _ (ne_ty hT_g2 hT_g (by decide))).trans (hr_g2)) rfl ?_
      obtain ⟨r8, e_r8⟩ : ∃ z : Nat → Int32, z = S_put r7 2 1 48 4 (ρ2 19) := ⟨_, rfl⟩
      refine q_callSN (h1 := _) (rest := []) (As := [.ref (gA G g 1), .int 4, .int (ρ2 19)]) X (c_X9_put (l := l) hG (n := 48) (row := r7) 4 (ρ2 19) (ac_5_1 hT_g) (va_up_self _ _ _) (by rw [hT_g]; rfl)) mf_X9_put ms_X9_put ln_X2_30 rfl ⟨by decide, by decide⟩ ⟨Nat.le_refl _, Nat.le_refl _⟩ rfl (Nat.le_of_ble_eq_true rfl) dX2_enter_121 (st2 := []) rfl ?_
      refine q_eq (h2 := va_up h g r8) (by rw [e_r8]; exact va_up_up _ _ _ _) rfl ?_
      refine q_aload_n X 0 dX2_enter_124 rfl ?_
      refine q_get (fk := 0) (v := .ref (gA G g 1)) X cf_X2 (ac_5_0 hT_g) (by decide) fl_X2_9 rfl rfl dX2_enter_125 rfl ?_
      refine q_iconst (v := 5) X dX2_enter_128 (by decide) ?_
      refine q_aload_n X 1 dX2_enter_129 rfl ?_
      refine q_geti (fk := 8) (x := ρ2 25) X cf_X0 (ac_2_2 hT_g2) (by decide) fl_X2_54 rfl rfl dX2_enter_130 ((va_up_ne _ _ (ne_ty hT_g2 hT_g (by decide))).trans (hr_g2)) rfl ?_
      obtain ⟨r9, e_r9⟩ : ∃ z : Nat → Int32, z = S_put r8 2 1 48 5 (ρ2 25) := ⟨_, rfl⟩
      refine q_callSN (h1 := _) (rest := []) (As := [.ref (gA G g 1), .int 5, .int (ρ2 25)]) X (c_X9_put (l := l) hG (n := 48) (row := r8) 5 (ρ2 25) (ac_5_1 hT_g) (va_up_self _ _ _) (by rw [hT_g]; rfl)) mf_X9_put ms_X9_put ln_X2_30 rfl ⟨by decide, by decide⟩ ⟨Nat.le_refl _, Nat.le_refl _⟩ rfl (Nat.le_of_ble_eq_true rfl) dX2_enter_133 (st2 := []) rfl ?_
      refine q_eq (h2 := va_up h g r9) (by rw [e_r9]; exact va_up_up _ _ _ _) rfl ?_
      have E : Z = r9 := by subst e_r9; subst e_r8; subst e_r7; subst e_r6; subst e_r5; subst e_r4; subst e_r3; subst e_r2; exact hZ.symm.trans ((if_pos c1).trans rfl)
      exact q_vret X hret dX2_enter_136 rfl (by rw [E])
    · skip
      refine q_aload_n X 0 dX2_enter_14 rfl ?_
      refine q_get (fk := 0) (v := .ref (gA G g 1)) X cf_X2 (ac_5_0 hT_g) (by decide) fl_X2_9 rfl rfl dX2_enter_15 rfl ?_
      refine q_iload_n X 2 dX2_enter_18 rfl ?_
      refine q_aload_n X 0 dX2_enter_19 rfl ?_
      refine q_get (fk := 0) (v := .ref (gA G g 1)) X cf_X2 (ac_5_0 hT_g) (by decide) fl_X2_9 rfl rfl dX2_enter_20 rfl ?_
      refine q_iload_n X 2 dX2_enter_23 rfl ?_
      refine q_bipush (v := 6) X dX2_enter_24 (by decide) ?_
      refine q_isub X dX2_enter_26 ?_
      refine q_callSN (h1 := _) (rest := [.int k, .ref (gA G g 1)]) (As := [.ref (gA G g 1), .int (k - 6)]) X (c_X9_at (l := l) hG (n := 48) (row := ρ1) (k - 6) (ac_5_1 hT_g) (va_up_self _ _ _) (by rw [hT_g]; rfl)) mf_X9_at ms_X9_at ln_X2_26 rfl ⟨by decide, by decide⟩ ⟨Nat.le_refl _, Nat.le_refl _⟩ rfl (Nat.le_of_ble_eq_true rfl) dX2_enter_27 (st2 := [.int (S_at ρ1 2 1 48 (k - 6)), .int k, .ref (gA G g 1)]) rfl ?_
      obtain ⟨r10, e_r10⟩ : ∃ z : Nat → Int32, z = S_put ρ1 2 1 48 k (S_at ρ1 2 1 48 (k - 6)) := ⟨_, rfl⟩
      refine q_callSN (h1 := _) (rest := []) (As := [.ref (gA G g 1), .int k, .int (S_at ρ1 2 1 48 (k - 6))]) X (c_X9_put (l := l) hG (n := 48) (row := ρ1) k (S_at ρ1 2 1 48 (k - 6)) (ac_5_1 hT_g) (va_up_self _ _ _) (by rw [hT_g]; rfl)) mf_X9_put ms_X9_put ln_X2_30 rfl ⟨by decide, by decide⟩ ⟨Nat.le_refl _, Nat.le_refl _⟩ rfl (Nat.le_of_ble_eq_true rfl) dX2_enter_30 (st2 := []) rfl ?_
      refine q_eq (h2 := va_up h g r10) (by rw [e_r10]; exact va_up_up _ _ _ _) rfl ?_
      refine q_iinc (v := k + (-1)) (lv' := [(2, .int (k + (-1))), (0, .ref (gA G g 0)), (1, .ref (gA G g2 2))]) X 2 dX2_enter_33 rfl rfl (by decide) rfl ?_
      refine q_goto (tgt := 8) X dX2_enter_36 (by decide) ?_
      refine q_sub (lv2 := [(0, .ref (gA G g 0)), (1, .ref (gA G g2 2)), (2, .int (k + (-1)))]) [1, 2, 0] rfl ?_
      have E : L_X2_enter_8 fu ρ ρ2 (k + (-1)) r10 = Z := Eq.trans (Eq.symm (by subst e_r10; exact (if_neg c1).trans rfl)) hZ
      exact ih (k + (-1)) r10  (by subst e_r10; exact ms_dn5 c1 hm) E
set_option maxRecDepth 100000 in
set_option maxHeartbeats 4000000 in
theorem c_X2_enter {G : Geo} {l : Launch} (hG : GOK G) {g g2 : Nat} {h : Hp} {ρ : Nat → Int32} {ρ2 : Nat → Int32} (hT_g : gT G g = 5) (hT_g2 : gT G g2 = 2) (hr_g : h g = ρ) (hr_g2 : h g2 = ρ2) : CM G l yX2_enter cX2_enter 3 none 1 22 [.ref (gA G g 0), .ref (gA G g2 2)] h (va_up h g (S_X2_enter ρ ρ2)) none := by
  obtain ⟨Z, hZ⟩ : ∃ Z, S_X2_enter ρ ρ2 = Z := ⟨_, rfl⟩
  rw [hZ]
  refine q_enter hG mf_X2_enter (Nat.le_of_ble_eq_true rfl) ?_
  intro p e s m below meth c X hret
  refine q_lv (lv2 := [(0, .ref (gA G g 0)), (1, .ref (gA G g2 2))]) rfl ?_
  refine q_aload_n X 0 dX2_enter_0 rfl ?_
  refine q_get (fk := 0) (v := .ref (gA G g 1)) X cf_X2 (ac_5_0 hT_g) (by decide) fl_X2_9 rfl rfl dX2_enter_1 rfl ?_
  refine q_alen (x := 48) X (ac_5_1 hT_g) dX2_enter_4 (by rw [hT_g]; rfl) ?_
  refine q_iconst (v := 1) X dX2_enter_5 (by decide) ?_
  refine q_isub X dX2_enter_6 ?_
  refine q_istore_n (lv' := [(2, .int (48 - 1)), (0, .ref (gA G g 0)), (1, .ref (gA G g2 2))]) X dX2_enter_7 (by decide) rfl ?_
  refine q_sub (lv2 := [(0, .ref (gA G g 0)), (1, .ref (gA G g2 2)), (2, .int (48 - 1))]) [1, 2, 0] rfl ?_
  refine q_eq (h2 := va_up h g ρ) (va_up_id2 (hr_g)).symm rfl ?_
  have E : L_X2_enter_8 43 ρ ρ2 (48 - 1) ρ = Z := Eq.trans (Eq.symm (by exact rfl)) hZ
  exact w_X2_enter_8 X hret hT_g hT_g2 hr_g hr_g2 Z 43 (48 - 1) ρ  (by decide) E
