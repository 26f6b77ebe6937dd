def L_X10_ticksUntil_B_24 (fu : Nat) (σ : Nat → Int32) (α : Nat → Int32) (wa : Int32) (fo : Int32) (k : Int32) (σ1 : Nat → Int32) (α1 : Nat → Int32) : Int32 × (Nat → Int32) × (Nat → Int32) := match fu with
  | 0 => (0, (fun _ => 0), (fun _ => 0))
  | fu + 1 => if 200 < k then (let r6 : Nat → Int32 := S_X10_release σ1 α1; (fo, r6, α1)) else (if fo = (-100009) then (let r9 : Nat → Int32 := S_X10_tick σ1; let m11 : Int32 := if (r9 16) < wa then ((-100009)) else (k); L_X10_ticksUntil_B_24 fu σ α wa m11 (k + 1) r9 α1) else (let r8 : Nat → Int32 := S_X10_release σ1 α1; (fo, r8, α1)))
def S_X10_ticksUntil_B (σ : Nat → Int32) (α : Nat → Int32) (wa : Int32) : Int32 × (Nat → Int32) × (Nat → Int32) := let r1 : Nat → Int32 := S_X10_hold σ α; let m3 : Int32 := if (σ 16) < wa then ((-100009)) else (0); L_X10_ticksUntil_B_24 202 σ α wa m3 1 σ r1
set_option maxRecDepth 100000 in
set_option maxHeartbeats 4000000 in
theorem w_X10_ticksUntil_B_24 {G : Geo} {p : Program} {l : Launch} {e : Env} {s : State} {m : MethodId} {args : Array Value} {below : List Frame} {meth : Method} {c : Code} {h : Hp} {σ : Nat → Int32} {α : Nat → Int32} {wa : Int32} (X : CX G (AA G) p s m meth c RX10 cX10_ticksUntil 5) (hret : meth.sig.returnType = (some .int)) (hM : MT G) (hr_37 : h 37 = σ) (hr_38 : h 38 = α) (hI : MI σ) (Z : Int32 × (Nat → Int32) × (Nat → Int32)) : ∀ (fu : Nat) (fo : Int32) (k : Int32) (σ1 : Nat → Int32) (α1 : Nat → Int32), (MI σ1) → ((200 : Int32).toInt + 1 - k.toInt).toNat < fu → L_X10_ticksUntil_B_24 fu σ α wa fo k σ1 α1 = Z → VV G (AA G) p l e { frames := 4, cells := 0, slots := 0, locals := 92 } s m args below meth c 0 0 (MQ below (QC G (va_up (va_up h 37 Z.2.1) 38 Z.2.2) (some (.int Z.1))) args s 0 0 (AA G)) 5 (va_up (va_up h 37 σ1) 38 α1) 24 [(0, .ref (gA G 36 0)), (1, .int 16), (2, .int wa), (3, .int fo), (4, .int k)] [] := by
  intro fu
  induction fu with
  | zero =>
    intro fo k σ1 α1 hI1 hm
    exact absurd hm (Nat.not_lt_zero _)
  | succ fu ih =>
    intro fo k σ1 α1 hI1 hm hZ
    have hG := X.2.2.2.2.2.1
    have hT_36 : gT G 36 = 9 := hM 36 (by decide) (by decide)
    have hT_37 : gT G 37 = 10 := hM 37 (by decide) (by decide)
    have hT_38 : gT G 38 = 10 := hM 38 (by decide) (by decide)
    refine q_iload X 4 dX10_ticksUntil_24 rfl ?_
    refine q_sipush (v := 200) X dX10_ticksUntil_26 (by decide) ?_
    refine q_icmp_gt (tgt := 66) X dX10_ticksUntil_29 (by decide) (fun c5 => ?_) (fun c5 => ?_)
    · skip
      refine q_aload_n X 0 dX10_ticksUntil_66 rfl ?_
      obtain ⟨r6, e_r6⟩ : ∃ z : Nat → Int32, z = S_X10_release σ1 α1 := ⟨_, rfl⟩
      refine q_callV (h1 := _) (rest := []) (As := []) X (c_X10_release (l := l) hG (σ := σ1) (α := α1)   hM ((va_up_ne _ _ (by decide)).trans (va_up_self _ _ _)) (va_up_self _ _ _)) mf_X10_release mv_X10_release cf_X10 rfl (ac_9_0 hT_36) lk_X10_92 rfl ⟨by decide, by decide⟩ ⟨Nat.le_refl _, Nat.le_refl _⟩ rfl (Nat.le_of_ble_eq_true rfl) dX10_ticksUntil_67 (st2 := []) rfl ?_
      refine q_eq (h2 := va_up (va_up h 38 α1) 37 r6) (by rw [← e_r6]; funext x; simp only [va_up]; (repeat' split) <;> first | rfl | omega) rfl ?_
      refine q_iload_n X 3 dX10_ticksUntil_70 rfl ?_
      have E : Z = (fo, r6, α1) := by subst e_r6; exact hZ.symm.trans ((if_pos c5).trans rfl)
      exact q_iret X hret dX10_ticksUntil_71 (by rw [E]) (by rw [E]; (funext x; simp only [va_up]; (repeat' split) <;> first | rfl | omega | (subst_vars; rfl) | (subst_vars; assumption)))
    · skip
      refine q_iload_n X 3 dX10_ticksUntil_32 rfl ?_
      refine q_ldc X kc_X10_81 dX10_ticksUntil_33 ?_
      refine q_icmp_ne (tgt := 66) X dX10_ticksUntil_35 (by decide) (fun c7 => ?_) (fun c7 => ?_)
      · skip
        refine q_aload_n X 0 dX10_ticksUntil_66 rfl ?_
        obtain ⟨r8, e_r8⟩ : ∃ z : Nat → Int32, z = S_X10_release σ1 α1 := ⟨_, rfl⟩
        refine q_callV (h1 := _) (rest := []) (As := []) X (c_X10_release (l := l) hG (σ := σ1) (α := α1)   hM ((va_up_ne _ _ (by decide)).trans (va_up_self _ _ _)) (va_up_self _ _ _)) mf_X10_release mv_X10_release cf_X10 rfl (ac_9_0 hT_36) lk_X10_92 rfl ⟨by decide, by decide⟩ ⟨Nat.le_refl _, Nat.le_refl _⟩ rfl (Nat.le_of_ble_eq_true rfl) dX10_ticksUntil_67 (st2 := []) rfl ?_
        refine q_eq (h2 := va_up (va_up h 38 α1) 37 r8) (by rw [← e_r8]; funext x; simp only [va_up]; (repeat' split) <;> first | rfl | omega) rfl ?_
        refine q_iload_n X 3 dX10_ticksUntil_70 rfl ?_
        have E : Z = (fo, r8, α1) := by subst e_r8; exact hZ.symm.trans ((if_neg c5).trans ((if_neg c7).trans rfl))
        exact q_iret X hret dX10_ticksUntil_71 (by rw [E]) (by rw [E]; (funext x; simp only [va_up]; (repeat' split) <;> first | rfl | omega | (subst_vars; rfl) | (subst_vars; assumption)))
      · skip
        refine q_aload_n X 0 dX10_ticksUntil_38 rfl ?_
        obtain ⟨r9, e_r9⟩ : ∃ z : Nat → Int32, z = S_X10_tick σ1 := ⟨_, rfl⟩
        refine q_callV (h1 := _) (rest := []) (As := []) X (c_X10_tick (l := l) hG (σ := σ1)   hM ((va_up_ne _ _ (by decide)).trans (va_up_self _ _ _)) hI1) mf_X10_tick mv_X10_tick cf_X10 rfl (ac_9_0 hT_36) lk_X10_122 rfl ⟨by decide, by decide⟩ ⟨Nat.le_refl _, Nat.le_refl _⟩ rfl (Nat.le_of_ble_eq_true rfl) dX10_ticksUntil_39 (st2 := []) rfl ?_
        refine q_eq (h2 := va_up (va_up h 38 α1) 37 r9) (by rw [← e_r9]; funext x; simp only [va_up]; (repeat' split) <;> first | rfl | omega) rfl ?_
        refine q_aload_n X 0 dX10_ticksUntil_42 rfl ?_
        refine q_get (fk := 1) (v := .ref (gA G 37 0)) X cf_X10 (ac_9_0 hT_36) (by decide) fl_X10_7 rfl rfl dX10_ticksUntil_43 rfl ?_
        refine q_iload_n X 1 dX10_ticksUntil_46 rfl ?_
        refine q_iald (x := r9 16) X (ac_10_0 hT_37) (by rw [hT_37]; exact vin_lit (by decide)) dX10_ticksUntil_47 (va_up_self _ _ _) rfl ?_
        refine q_iload_n X 2 dX10_ticksUntil_48 rfl ?_
        suffices hJ12 : ∀ (m11 : Int32), m11 = (if (r9 16) < wa then ((-100009)) else (k)) → VV G (AA G) p l e { frames := 4, cells := 0, slots := 0, locals := 92 } s m args below meth c 0 0 (MQ below (QC G (va_up (va_up h 37 Z.2.1) 38 Z.2.2) (some (.int Z.1))) args s 0 0 (AA G)) 5 (va_up (va_up h 38 α1) 37 r9) 59 [(0, .ref (gA G 36 0)), (1, .int 16), (2, .int wa), (3, .int fo), (4, .int k)] [.int m11] by
          refine q_icmp_lt (tgt := 57) X dX10_ticksUntil_49 (by decide) (fun c10 => ?_) (fun c10 => ?_)
          · skip
            refine q_ldc X kc_X10_81 dX10_ticksUntil_57 ?_
            refine q_sub (lv2 := [(0, .ref (gA G 36 0)), (1, .int 16), (2, .int wa), (3, .int fo), (4, .int k)]) [0, 1, 2, 3, 4] rfl ?_
            exact hJ12 (-100009) (by exact ((if_pos c10).trans rfl).symm)
          · skip
            refine q_iload X 4 dX10_ticksUntil_52 rfl ?_
            refine q_goto (tgt := 59) X dX10_ticksUntil_54 (by decide) ?_
            refine q_sub (lv2 := [(0, .ref (gA G 36 0)), (1, .int 16), (2, .int wa), (3, .int fo), (4, .int k)]) [0, 1, 2, 3, 4] rfl ?_
            exact hJ12 k (by exact ((if_neg c10).trans rfl).symm)
        intro m11 e_m11
        refine q_istore_n (lv' := [(3, .int m11), (0, .ref (gA G 36 0)), (1, .int 16), (2, .int wa), (4, .int k)]) X dX10_ticksUntil_59 (by decide) rfl ?_
        refine q_iinc (v := k + 1) (lv' := [(4, .int (k + 1)), (3, .int m11), (0, .ref (gA G 36 0)), (1, .int 16), (2, .int wa)]) X 4 dX10_ticksUntil_60 rfl rfl (by decide) rfl ?_
        refine q_goto (tgt := 24) X dX10_ticksUntil_63 (by decide) ?_
        refine q_sub (lv2 := [(0, .ref (gA G 36 0)), (1, .int 16), (2, .int wa), (3, .int m11), (4, .int (k + 1))]) [2, 3, 4, 1, 0] rfl ?_
        refine q_eq (h2 := va_up (va_up h 37 r9) 38 α1) (by funext x; simp only [va_up]; (repeat' split) <;> first | rfl | omega) rfl ?_
        have E : L_X10_ticksUntil_B_24 fu σ α wa m11 (k + 1) r9 α1 = Z := Eq.trans (Eq.symm (by subst e_m11; subst e_r9; exact (if_neg c5).trans ((if_pos c7).trans rfl))) hZ
        exact ih m11 (k + 1) r9 α1 (by subst e_m11; subst e_r9; exact MI_X10_tick hI1) (by subst e_m11; subst e_r9; exact ms_gt (by decide) c5 hm) E
set_option maxRecDepth 100000 in
set_option maxHeartbeats 4000000 in
theorem c_X10_ticksUntil_B {G : Geo} {l : Launch} (hG : GOK G) {h : Hp} {σ : Nat → Int32} {α : Nat → Int32} (wa : Int32) (hM : MT G) (hr_37 : h 37 = σ) (hr_38 : h 38 = α) (hI : MI σ) : CM G l yX10_ticksUntil cX10_ticksUntil 5 (some .int) 4 92 [.ref (gA G 36 0), .int 16, .int wa] h (va_up (va_up h 37 ((S_X10_ticksUntil_B σ α wa).2.1)) 38 ((S_X10_ticksUntil_B σ α wa).2.2)) (some (.int ((S_X10_ticksUntil_B σ α wa).1))) := by
  obtain ⟨Z, hZ⟩ : ∃ Z, S_X10_ticksUntil_B σ α wa = Z := ⟨_, rfl⟩
  rw [hZ]
  refine q_enter hG mf_X10_ticksUntil (Nat.le_of_ble_eq_true rfl) ?_
  intro p e s m below meth c X hret
  have hT_36 : gT G 36 = 9 := hM 36 (by decide) (by decide)
  have hT_37 : gT G 37 = 10 := hM 37 (by decide) (by decide)
  have hT_38 : gT G 38 = 10 := hM 38 (by decide) (by decide)
  refine q_lv (lv2 := [(0, .ref (gA G 36 0)), (1, .int 16), (2, .int wa)]) rfl ?_
  refine q_aload_n X 0 dX10_ticksUntil_0 rfl ?_
  obtain ⟨r1, e_r1⟩ : ∃ z : Nat → Int32, z = S_X10_hold σ α := ⟨_, rfl⟩
  refine q_callV (h1 := _) (rest := []) (As := []) X (c_X10_hold (l := l) hG (σ := σ) (α := α)   hM (hr_37) (hr_38)) mf_X10_hold mv_X10_hold cf_X10 rfl (ac_9_0 hT_36) lk_X10_85 rfl ⟨by decide, by decide⟩ ⟨Nat.le_refl _, Nat.le_refl _⟩ rfl (Nat.le_of_ble_eq_true rfl) dX10_ticksUntil_1 (st2 := []) rfl ?_
  refine q_eq (h2 := va_up h 38 r1) (by rw [e_r1]) rfl ?_
  refine q_aload_n X 0 dX10_ticksUntil_4 rfl ?_
  refine q_get (fk := 1) (v := .ref (gA G 37 0)) X cf_X10 (ac_9_0 hT_36) (by decide) fl_X10_7 rfl rfl dX10_ticksUntil_5 rfl ?_
  refine q_iload_n X 1 dX10_ticksUntil_8 rfl ?_
  refine q_iald (x := σ 16) X (ac_10_0 hT_37) (by rw [hT_37]; exact vin_lit (by decide)) dX10_ticksUntil_9 ((va_up_ne _ _ (by decide)).trans (hr_37)) rfl ?_
  refine q_iload_n X 2 dX10_ticksUntil_10 rfl ?_
  suffices hJ4 : ∀ (m3 : Int32), m3 = (if (σ 16) < wa then ((-100009)) else (0)) → VV G (AA G) p l e { frames := 4, cells := 0, slots := 0, locals := 92 } s m ([.ref (gA G 36 0), .int 16, .int wa] : List Value).toArray below meth c 0 0 (MQ below (QC G (va_up (va_up h 37 Z.2.1) 38 Z.2.2) (some (.int Z.1))) ([.ref (gA G 36 0), .int 16, .int wa] : List Value).toArray s 0 0 (AA G)) 5 (va_up h 38 r1) 20 [(0, .ref (gA G 36 0)), (1, .int 16), (2, .int wa)] [.int m3] by
    refine q_icmp_lt (tgt := 18) X dX10_ticksUntil_11 (by decide) (fun c2 => ?_) (fun c2 => ?_)
    · skip
      refine q_ldc X kc_X10_81 dX10_ticksUntil_18 ?_
      refine q_sub (lv2 := [(0, .ref (gA G 36 0)), (1, .int 16), (2, .int wa)]) [0, 1, 2] rfl ?_
      exact hJ4 (-100009) (by exact ((if_pos c2).trans rfl).symm)
    · skip
      refine q_iconst (v := 0) X dX10_ticksUntil_14 (by decide) ?_
      refine q_goto (tgt := 20) X dX10_ticksUntil_15 (by decide) ?_
      refine q_sub (lv2 := [(0, .ref (gA G 36 0)), (1, .int 16), (2, .int wa)]) [0, 1, 2] rfl ?_
      exact hJ4 0 (by exact ((if_neg c2).trans rfl).symm)
  intro m3 e_m3
  refine q_istore_n (lv' := [(3, .int m3), (0, .ref (gA G 36 0)), (1, .int 16), (2, .int wa)]) X dX10_ticksUntil_20 (by decide) rfl ?_
  refine q_iconst (v := 1) X dX10_ticksUntil_21 (by decide) ?_
  refine q_istore (lv' := [(4, .int 1), (3, .int m3), (0, .ref (gA G 36 0)), (1, .int 16), (2, .int wa)]) X dX10_ticksUntil_22 (by decide) rfl ?_
  refine q_sub (lv2 := [(0, .ref (gA G 36 0)), (1, .int 16), (2, .int wa), (3, .int m3), (4, .int 1)]) [2, 3, 4, 1, 0] rfl ?_
  refine q_eq (h2 := va_up (va_up h 38 r1) 37 σ) (va_up_id2 ((va_up_ne _ _ (by decide)).trans (hr_37))).symm rfl ?_
  refine q_eq (h2 := va_up (va_up h 37 σ) 38 r1) (by funext x; simp only [va_up]; (repeat' split) <;> first | rfl | omega) rfl ?_
  have E : L_X10_ticksUntil_B_24 202 σ α wa m3 1 σ r1 = Z := Eq.trans (Eq.symm (by subst e_m3; subst e_r1; exact rfl)) hZ
  exact w_X10_ticksUntil_B_24 X hret hM hr_37 hr_38 hI Z 202 m3 1 σ r1 (by subst e_m3; subst e_r1; exact hI) (by subst e_m3; subst e_r1; decide) E
def L_X10_ticksUntil_L_24 (fu : Nat) (σ : Nat → Int32) (α : Nat → Int32) (wa : Int32) (fo : Int32) (k : Int32) (σ1 : Nat → Int32) (α1 : Nat → Int32) : Int32 × (Nat → Int32) × (Nat → Int32) := match fu with
  | 0 => (0, (fun _ => 0), (fun _ => 0))
  | fu + 1 => if 200 < k then (let r6 : Nat → Int32 := S_X10_release σ1 α1; (fo, r6, α1)) else (if fo = (-100009) then (let r9 : Nat → Int32 := S_X10_tick σ1; let m11 : Int32 := if (r9 19) < wa then ((-100009)) else (k); L_X10_ticksUntil_L_24 fu σ α wa m11 (k + 1) r9 α1) else (let r8 : Nat → Int32 := S_X10_release σ1 α1; (fo, r8, α1)))
def S_X10_ticksUntil_L (σ : Nat → Int32) (α : Nat → Int32) (wa : Int32) : Int32 × (Nat → Int32) × (Nat → Int32) := let r1 : Nat → Int32 := S_X10_hold σ α; let m3 : Int32 := if (σ 19) < wa then ((-100009)) else (0); L_X10_ticksUntil_L_24 202 σ α wa m3 1 σ r1
set_option maxRecDepth 100000 in
set_option maxHeartbeats 4000000 in
theorem w_X10_ticksUntil_L_24 {G : Geo} {p : Program} {l : Launch} {e : Env} {s : State} {m : MethodId} {args : Array Value} {below : List Frame} {meth : Method} {c : Code} {h : Hp} {σ : Nat → Int32} {α : Nat → Int32} {wa : Int32} (X : CX G (AA G) p s m meth c RX10 cX10_ticksUntil 5) (hret : meth.sig.returnType = (some .int)) (hM : MT G) (hr_37 : h 37 = σ) (hr_38 : h 38 = α) (hI : MI σ) (Z : Int32 × (Nat → Int32) × (Nat → Int32)) : ∀ (fu : Nat) (fo : Int32) (k : Int32) (σ1 : Nat → Int32) (α1 : Nat → Int32), (MI σ1) → ((200 : Int32).toInt + 1 - k.toInt).toNat < fu → L_X10_ticksUntil_L_24 fu σ α wa fo k σ1 α1 = Z → VV G (AA G) p l e { frames := 4, cells := 0, slots := 0, locals := 92 } s m args below meth c 0 0 (MQ below (QC G (va_up (va_up h 37 Z.2.1) 38 Z.2.2) (some (.int Z.1))) args s 0 0 (AA G)) 5 (va_up (va_up h 37 σ1) 38 α1) 24 [(0, .ref (gA G 36 0)), (1, .int 19), (2, .int wa), (3, .int fo), (4, .int k)] [] := by
  intro fu
  induction fu with
  | zero =>
    intro fo k σ1 α1 hI1 hm
    exact absurd hm (Nat.not_lt_zero _)
  | succ fu ih =>
    intro fo k σ1 α1 hI1 hm hZ
    have hG := X.2.2.2.2.2.1
    have hT_36 : gT G 36 = 9 := hM 36 (by decide) (by decide)
    have hT_37 : gT G 37 = 10 := hM 37 (by decide) (by decide)
    have hT_38 : gT G 38 = 10 := hM 38 (by decide) (by decide)
    refine q_iload X 4 dX10_ticksUntil_24 rfl ?_
    refine q_sipush (v := 200) X dX10_ticksUntil_26 (by decide) ?_
    refine q_icmp_gt (tgt := 66) X dX10_ticksUntil_29 (by decide) (fun c5 => ?_) (fun c5 => ?_)
    · skip
      refine q_aload_n X 0 dX10_ticksUntil_66 rfl ?_
      obtain ⟨r6, e_r6⟩ : ∃ z : Nat → Int32, z = S_X10_release σ1 α1 := ⟨_, rfl⟩
      refine q_callV (h1 := _) (rest := []) (As := []) X (c_X10_release (l := l) hG (σ := σ1) (α := α1)   hM ((va_up_ne _ _ (by decide)).trans (va_up_self _ _ _)) (va_up_self _ _ _)) mf_X10_release mv_X10_release cf_X10 rfl (ac_9_0 hT_36) lk_X10_92 rfl ⟨by decide, by decide⟩ ⟨Nat.le_refl _, Nat.le_refl _⟩ rfl (Nat.le_of_ble_eq_true rfl) dX10_ticksUntil_67 (st2 := []) rfl ?_
      refine q_eq (h2 := va_up (va_up h 38 α1) 37 r6) (by rw [← e_r6]; funext x; simp only [va_up]; (repeat' split) <;> first | rfl | omega) rfl ?_
      refine q_iload_n X 3 dX10_ticksUntil_70 rfl ?_
      have E : Z = (fo, r6, α1) := by subst e_r6; exact hZ.symm.trans ((if_pos c5).trans rfl)
      exact q_iret X hret dX10_ticksUntil_71 (by rw [E]) (by rw [E]; (funext x; simp only [va_up]; (repeat' split) <;> first | rfl | omega | (subst_vars; rfl) | (subst_vars; assumption)))
    · skip
      refine q_iload_n X 3 dX10_ticksUntil_32 rfl ?_
      refine q_ldc X kc_X10_81 dX10_ticksUntil_33 ?_
      refine q_icmp_ne (tgt := 66) X dX10_ticksUntil_35 (by decide) (fun c7 => ?_) (fun c7 => ?_)
      · skip
        refine q_aload_n X 0 dX10_ticksUntil_66 rfl ?_
        obtain ⟨r8, e_r8⟩ : ∃ z : Nat → Int32, z = S_X10_release σ1 α1 := ⟨_, rfl⟩
        refine q_callV (h1 := _) (rest := []) (As := []) X (c_X10_release (l := l) hG (σ := σ1) (α := α1)   hM ((va_up_ne _ _ (by decide)).trans (va_up_self _ _ _)) (va_up_self _ _ _)) mf_X10_release mv_X10_release cf_X10 rfl (ac_9_0 hT_36) lk_X10_92 rfl ⟨by decide, by decide⟩ ⟨Nat.le_refl _, Nat.le_refl _⟩ rfl (Nat.le_of_ble_eq_true rfl) dX10_ticksUntil_67 (st2 := []) rfl ?_
        refine q_eq (h2 := va_up (va_up h 38 α1) 37 r8) (by rw [← e_r8]; funext x; simp only [va_up]; (repeat' split) <;> first | rfl | omega) rfl ?_
        refine q_iload_n X 3 dX10_ticksUntil_70 rfl ?_
        have E : Z = (fo, r8, α1) := by subst e_r8; exact hZ.symm.trans ((if_neg c5).trans ((if_neg c7).trans rfl))
        exact q_iret X hret dX10_ticksUntil_71 (by rw [E]) (by rw [E]; (funext x; simp only [va_up]; (repeat' split) <;> first | rfl | omega | (subst_vars; rfl) | (subst_vars; assumption)))
      · skip
        refine q_aload_n X 0 dX10_ticksUntil_38 rfl ?_
        obtain ⟨r9, e_r9⟩ : ∃ z : Nat → Int32, z = S_X10_tick σ1 := ⟨_, rfl⟩
        refine q_callV (h1 := _) (rest := []) (As := []) X (c_X10_tick (l := l) hG (σ := σ1)   hM ((va_up_ne _ _ (by decide)).trans (va_up_self _ _ _)) hI1) mf_X10_tick mv_X10_tick cf_X10 rfl (ac_9_0 hT_36) lk_X10_122 rfl ⟨by decide, by decide⟩ ⟨Nat.le_refl _, Nat.le_refl _⟩ rfl (Nat.le_of_ble_eq_true rfl) dX10_ticksUntil_39 (st2 := []) rfl ?_
        refine q_eq (h2 := va_up (va_up h 38 α1) 37 r9) (by rw [← e_r9]; funext x; simp only [va_up]; (repeat' split) <;> first | rfl | omega) rfl ?_
        refine q_aload_n X 0 dX10_ticksUntil_42 rfl ?_
        refine q_get (fk := 1) (v := .ref (gA G 37 0)) X cf_X10 (ac_9_0 hT_36) (by decide) fl_X10_7 rfl rfl dX10_ticksUntil_43 rfl ?_
        refine q_iload_n X 1 dX10_ticksUntil_46 rfl ?_
        refine q_iald (x := r9 19) X (ac_10_0 hT_37) (by rw [hT_37]; exact vin_lit (by decide)) dX10_ticksUntil_47 (va_up_self _ _ _) rfl ?_
        refine q_iload_n X 2 dX10_ticksUntil_48 rfl ?_
        suffices hJ12 : ∀ (m11 : Int32), m11 = (if (r9 19) < wa then ((-100009)) else (k)) → VV G (AA G) p l e { frames := 4, cells := 0, slots := 0, locals := 92 } s m args below meth c 0 0 (MQ below (QC G (va_up (va_up h 37 Z.2.1) 38 Z.2.2) (some (.int Z.1))) args s 0 0 (AA G)) 5 (va_up (va_up h 38 α1) 37 r9) 59 [(0, .ref (gA G 36 0)), (1, .int 19), (2, .int wa), (3, .int fo), (4, .int k)] [.int m11] by
          refine q_icmp_lt (tgt := 57) X dX10_ticksUntil_49 (by decide) (fun c10 => ?_) (fun c10 => ?_)
          · skip
            refine q_ldc X kc_X10_81 dX10_ticksUntil_57 ?_
            refine q_sub (lv2 := [(0, .ref (gA G 36 0)), (1, .int 19), (2, .int wa), (3, .int fo), (4, .int k)]) [0, 1, 2, 3, 4] rfl ?_
            exact hJ12 (-100009) (by exact ((if_pos c10).trans rfl).symm)
          · skip
            refine q_iload X 4 dX10_ticksUntil_52 rfl ?_
            refine q_goto (tgt := 59) X dX10_ticksUntil_54 (by decide) ?_
            refine q_sub (lv2 := [(0, .ref (gA G 36 0)), (1, .int 19), (2, .int wa), (3, .int fo), (4, .int k)]) [0, 1, 2, 3, 4] rfl ?_
            exact hJ12 k (by exact ((if_neg c10).trans rfl).symm)
        intro m11 e_m11
        refine q_istore_n (lv' := [(3, .int m11), (0, .ref (gA G 36 0)), (1, .int 19), (2, .int wa), (4, .int k)]) X dX10_ticksUntil_59 (by decide) rfl ?_
        refine q_iinc (v := k + 1) (lv' := [(4, .int (k + 1)), (3, .int m11), (0, .ref (gA G 36 0)), (1, .int 19), (2, .int wa)]) X 4 dX10_ticksUntil_60 rfl rfl (by decide) rfl ?_
        refine q_goto (tgt := 24) X dX10_ticksUntil_63 (by decide) ?_
        refine q_sub (lv2 := [(0, .ref (gA G 36 0)), (1, .int 19), (2, .int wa), (3, .int m11), (4, .int (k + 1))]) [2, 3, 4, 1, 0] rfl ?_
        refine q_eq (h2 := va_up (va_up h 37 r9) 38 α1) (by funext x; simp only [va_up]; (repeat' split) <;> first | rfl | omega) rfl ?_
        have E : L_X10_ticksUntil_L_24 fu σ α wa m11 (k + 1) r9 α1 = Z := Eq.trans (Eq.symm (by subst e_m11; subst e_r9; exact (if_neg c5).trans ((if_pos c7).trans rfl))) hZ
        exact ih m11 (k + 1) r9 α1 (by subst e_m11; subst e_r9; exact MI_X10_tick hI1) (by subst e_m11; subst e_r9; exact ms_gt (by decide) c5 hm) E
set_option maxRecDepth 100000 in
set_option maxHeartbeats 4000000 in
theorem c_X10_ticksUntil_L {G : Geo} {l : Launch} (hG : GOK G) {h : Hp} {σ : Nat → Int32} {α : Nat → Int32} (wa : Int32) (hM : MT G) (hr_37 : h 37 = σ) (hr_38 : h 38 = α) (hI : MI σ) : CM G l yX10_ticksUntil cX10_ticksUntil 5 (some .int) 4 92 [.ref (gA G 36 0), .int 19, .int wa] h (va_up (va_up h 37 ((S_X10_ticksUntil_L σ α wa).2.1)) 38 ((S_X10_ticksUntil_L σ α wa).2.2)) (some (.int ((S_X10_ticksUntil_L σ α wa).1))) := by
  obtain ⟨Z, hZ⟩ : ∃ Z, S_X10_ticksUntil_L σ α wa = Z := ⟨_, rfl⟩
  rw [hZ]
  refine q_enter hG mf_X10_ticksUntil (Nat.le_of_ble_eq_true rfl) ?_
  intro p e s m below meth c X hret
  have hT_36 : gT G 36 = 9 := hM 36 (by decide) (by decide)
  have hT_37 : gT G 37 = 10 := hM 37 (by decide) (by decide)
  have hT_38 : gT G 38 = 10 := hM 38 (by decide) (by decide)
  refine q_lv (lv2 := [(0, .ref (gA G 36 0)), (1, .int 19), (2, .int wa)]) rfl ?_
  refine q_aload_n X 0 dX10_ticksUntil_0 rfl ?_
  obtain ⟨r1, e_r1⟩ : ∃ z : Nat → Int32, z = S_X10_hold σ α := ⟨_, rfl⟩
  refine q_callV (h1 := _) (rest := []) (As := []) X (c_X10_hold (l := l) hG (σ := σ) (α := α)   hM (hr_37) (hr_38)) mf_X10_hold mv_X10_hold cf_X10 rfl (ac_9_0 hT_36) lk_X10_85 rfl ⟨by decide, by decide⟩ ⟨Nat.le_refl _, Nat.le_refl _⟩ rfl (Nat.le_of_ble_eq_true rfl) dX10_ticksUntil_1 (st2 := []) rfl ?_
  refine q_eq (h2 := va_up h 38 r1) (by rw [e_r1]) rfl ?_
  refine q_aload_n X 0 dX10_ticksUntil_4 rfl ?_
  refine q_get (fk := 1) (v := .ref (gA G 37 0)) X cf_X10 (ac_9_0 hT_36) (by decide) fl_X10_7 rfl rfl dX10_ticksUntil_5 rfl ?_
  refine q_iload_n X 1 dX10_ticksUntil_8 rfl ?_
  refine q_iald (x := σ 19) X (ac_10_0 hT_37) (by rw [hT_37]; exact vin_lit (by decide)) dX10_ticksUntil_9 ((va_up_ne _ _ (by decide)).trans (hr_37)) rfl ?_
  refine q_iload_n X 2 dX10_ticksUntil_10 rfl ?_
  suffices hJ4 : ∀ (m3 : Int32), m3 = (if (σ 19) < wa then ((-100009)) else (0)) → VV G (AA G) p l e { frames := 4, cells := 0, slots := 0, locals := 92 } s m ([.ref (gA G 36 0), .int 19, .int wa] : List Value).toArray below meth c 0 0 (MQ below (QC G (va_up (va_up h 37 Z.2.1) 38 Z.2.2) (some (.int Z.1))) ([.ref (gA G 36 0), .int 19, .int wa] : List Value).toArray s 0 0 (AA G)) 5 (va_up h 38 r1) 20 [(0, .ref (gA G 36 0)), (1, .int 19), (2, .int wa)] [.int m3] by
    refine q_icmp_lt (tgt := 18) X dX10_ticksUntil_11 (by decide) (fun c2 => ?_) (fun c2 => ?_)
    · skip
      refine q_ldc X kc_X10_81 dX10_ticksUntil_18 ?_
      refine q_sub (lv2 := [(0, .ref (gA G 36 0)), (1, .int 19), (2, .int wa)]) [0, 1, 2] rfl ?_
      exact hJ4 (-100009) (by exact ((if_pos c2).trans rfl).symm)
    · skip
      refine q_iconst (v := 0) X dX10_ticksUntil_14 (by decide) ?_
      refine q_goto (tgt := 20) X dX10_ticksUntil_15 (by decide) ?_
      refine q_sub (lv2 := [(0, .ref (gA G 36 0)), (1, .int 19), (2, .int wa)]) [0, 1, 2] rfl ?_
      exact hJ4 0 (by exact ((if_neg c2).trans rfl).symm)
  intro m3 e_m3
  refine q_istore_n (lv' := [(3, .int m3), (0, .ref (gA G 36 0)), (1, .int 19), (2, .int wa)]) X dX10_ticksUntil_20 (by decide) rfl ?_
  refine q_iconst (v := 1) X dX10_ticksUntil_21 (by decide) ?_
  refine q_istore (lv' := [(4, .int 1), (3, .int m3), (0, .ref (gA G 36 0)), (1, .int 19), (2, .int wa)]) X dX10_ticksUntil_22 (by decide) rfl ?_
  refine q_sub (lv2 := [(0, .ref (gA G 36 0)), (1, .int 19), (2, .int wa), (3, .int m3), (4, .int 1)]) [2, 3, 4, 1, 0] rfl ?_
  refine q_eq (h2 := va_up (va_up h 38 r1) 37 σ) (va_up_id2 ((va_up_ne _ _ (by decide)).trans (hr_37))).symm rfl ?_
  refine q_eq (h2 := va_up (va_up h 37 σ) 38 r1) (by funext x; simp only [va_up]; (repeat' split) <;> first | rfl | omega) rfl ?_
  have E : L_X10_ticksUntil_L_24 202 σ α wa m3 1 σ r1 = Z := Eq.trans (Eq.symm (by subst e_m3; subst e_r1; exact rfl)) hZ
  exact w_X10_ticksUntil_L_24 X hret hM hr_37 hr_38 hI Z 202 m3 1 σ r1 (by subst e_m3; subst e_r1; exact hI) (by subst e_m3; subst e_r1; decide) E
def S_X10_ticksTo (κ : Nat → Int32) (σ : Nat → Int32) (α : Nat → Int32) (te : Int32) : Int32 × (Nat → Int32) × (Nat → Int32) × (Nat → Int32) := let r1 : Nat → Int32 := va_up κ 0 0; if (S_X10_in te 0 3000) = 0 then (((-100001), r1, σ, α)) else (let m4 : Int32 := if (S_X10_isRoasting σ) = 0 then ((-100002)) else (let r7 : Nat → Int32 := (S_X10_ticksUntil_B σ α te).2.1; let r8 : Nat → Int32 := (S_X10_ticksUntil_B σ α te).2.2; (S_X10_ticksUntil_B σ α te).1); let m5 : Nat → Int32 := if (S_X10_isRoasting σ) = 0 then (σ) else (let r7 : Nat → Int32 := (S_X10_ticksUntil_B σ α te).2.1; let r8 : Nat → Int32 := (S_X10_ticksUntil_B σ α te).2.2; r7); let m6 : Nat → Int32 := if (S_X10_isRoasting σ) = 0 then (α) else (let r7 : Nat → Int32 := (S_X10_ticksUntil_B σ α te).2.1; (S_X10_ticksUntil_B σ α te).2.2); (m4, r1, m5, m6))
set_option maxRecDepth 100000 in
set_option maxHeartbeats 4000000 in
theorem c_X10_ticksTo {G : Geo} {l : Launch} (hG : GOK G) {h : Hp} {κ : Nat → Int32} {σ : Nat → Int32} {α : Nat → Int32} (te : Int32) (hM : MT G) (hr_36 : h 36 = κ) (hr_37 : h 37 = σ) (hr_38 : h 38 = α) (hI : MI σ) : CM G l yX10_ticksTo cX10_ticksTo 2 (some .int) 5 116 [.ref (gA G 36 0), .int te] h (va_up (va_up (va_up h 36 ((S_X10_ticksTo κ σ α te).2.1)) 37 ((S_X10_ticksTo κ σ α te).2.2.1)) 38 ((S_X10_ticksTo κ σ α te).2.2.2)) (some (.int ((S_X10_ticksTo κ σ α te).1))) := by
  obtain ⟨Z, hZ⟩ : ∃ Z, S_X10_ticksTo κ σ α te = Z := ⟨_, rfl⟩
  rw [hZ]
  refine q_enter hG mf_X10_ticksTo (Nat.le_of_ble_eq_true rfl) ?_
  intro p e s m below meth c X hret
  have hT_36 : gT G 36 = 9 := hM 36 (by decide) (by decide)
  have hT_37 : gT G 37 = 10 := hM 37 (by decide) (by decide)
  have hT_38 : gT G 38 = 10 := hM 38 (by decide) (by decide)
  refine q_lv (lv2 := [(0, .ref (gA G 36 0)), (1, .int te)]) rfl ?_
  refine q_aload_n X 0 dX10_ticksTo_0 rfl ?_
  refine q_iconst (v := 0) X dX10_ticksTo_1 (by decide) ?_
  obtain ⟨r1, e_r1⟩ : ∃ z : Nat → Int32, z = va_up κ 0 0 := ⟨_, rfl⟩
  refine q_put (fk := 0) (h2 := va_up h 36 r1) X cf_X10 (ac_9_0 hT_36) (by decide) fl_X10_25 rfl rfl (by rw [hT_36]; rfl) rfl rfl rfl dX10_ticksTo_2 (hr_36) (by rw [e_r1]) ?_
  refine q_iload_n X 1 dX10_ticksTo_5 rfl ?_
  refine q_iconst (v := 0) X dX10_ticksTo_6 (by decide) ?_
  refine q_sipush (v := 3000) X dX10_ticksTo_7 (by decide) ?_
  refine q_callS (h1 := _) (rest := []) (As := [.int te, .int 0, .int 3000]) X (c_X10_in (l := l) hG   te 0 3000 ) mf_X10_in ms_X10_in lk_X10_39 rfl ⟨by decide, by decide⟩ ⟨Nat.le_refl _, Nat.le_refl _⟩ rfl (Nat.le_of_ble_eq_true rfl) dX10_ticksTo_10 (st2 := [.int (S_X10_in te 0 3000)]) rfl ?_
  refine q_if_ne (tgt := 19) X dX10_ticksTo_13 (by decide) (fun c2 => ?_) (fun c2 => ?_)
  · skip
    refine q_aload_n X 0 dX10_ticksTo_19 rfl ?_
    refine q_callV (h1 := _) (rest := []) (As := []) X (c_X10_isRoasting (l := l) hG (σ := σ)   hM ((va_up_ne _ _ (by decide)).trans (hr_37))) mf_X10_isRoasting mv_X10_isRoasting cf_X10 rfl (ac_9_0 hT_36) lk_X10_96 rfl ⟨by decide, by decide⟩ ⟨Nat.le_refl _, Nat.le_refl _⟩ rfl (Nat.le_of_ble_eq_true rfl) dX10_ticksTo_20 (st2 := [.int (S_X10_isRoasting σ)]) rfl ?_
    suffices hJ9 : ∀ (m4 : Int32) (m5 : Nat → Int32) (m6 : Nat → Int32), m4 = (if (S_X10_isRoasting σ) = 0 then ((-100002)) else (let r7 : Nat → Int32 := (S_X10_ticksUntil_B σ α te).2.1; let r8 : Nat → Int32 := (S_X10_ticksUntil_B σ α te).2.2; (S_X10_ticksUntil_B σ α te).1)) → m5 = (if (S_X10_isRoasting σ) = 0 then (σ) else (let r7 : Nat → Int32 := (S_X10_ticksUntil_B σ α te).2.1; let r8 : Nat → Int32 := (S_X10_ticksUntil_B σ α te).2.2; r7)) → m6 = (if (S_X10_isRoasting σ) = 0 then (α) else (let r7 : Nat → Int32 := (S_X10_ticksUntil_B σ α te).2.1; (S_X10_ticksUntil_B σ α te).2.2)) → VV G (AA G) p l e { frames := 5, cells := 0, slots := 0, locals := 116 } s m ([.ref (gA G 36 0), .int te] : List Value).toArray below meth c 0 0 (MQ below (QC G (va_up (va_up (va_up h 36 Z.2.1) 37 Z.2.2.1) 38 Z.2.2.2) (some (.int Z.1))) ([.ref (gA G 36 0), .int te] : List Value).toArray s 0 0 (AA G)) 2 (va_up (va_up (va_up h 36 r1) 37 m5) 38 m6) 38 [(0, .ref (gA G 36 0)), (1, .int te)] [.int m4] by
      refine q_if_eq (tgt := 36) X dX10_ticksTo_23 (by decide) (fun c3 => ?_) (fun c3 => ?_)
      · skip
        refine q_ldc X kc_X10_61 dX10_ticksTo_36 ?_
        refine q_sub (lv2 := [(0, .ref (gA G 36 0)), (1, .int te)]) [0, 1] rfl ?_
        refine q_eq (h2 := va_up (va_up (va_up h 36 r1) 37 σ) 38 α) (by funext x; simp only [va_up]; (repeat' split) <;> first | rfl | omega | (subst_vars; rfl)) rfl ?_
        exact hJ9 (-100002) σ α (by exact ((if_pos c3).trans rfl).symm) (by exact ((if_pos c3).trans rfl).symm) (by exact ((if_pos c3).trans rfl).symm)
      · skip
        refine q_aload_n X 0 dX10_ticksTo_26 rfl ?_
        refine q_bipush (v := 16) X dX10_ticksTo_27 (by decide) ?_
        refine q_iload_n X 1 dX10_ticksTo_29 rfl ?_
        obtain ⟨r7, e_r7⟩ : ∃ z : Nat → Int32, z = (S_X10_ticksUntil_B σ α te).2.1 := ⟨_, rfl⟩
        obtain ⟨r8, e_r8⟩ : ∃ z : Nat → Int32, z = (S_X10_ticksUntil_B σ α te).2.2 := ⟨_, rfl⟩
        refine q_callV (h1 := _) (rest := []) (As := [.int 16, .int te]) X (c_X10_ticksUntil_B (l := l) hG (σ := σ) (α := α)  te hM ((va_up_ne _ _ (by decide)).trans (hr_37)) ((va_up_ne _ _ (by decide)).trans (hr_38)) hI) mf_X10_ticksUntil mv_X10_ticksUntil cf_X10 rfl (ac_9_0 hT_36) lk_X10_131 rfl ⟨by decide, by decide⟩ ⟨Nat.le_refl _, Nat.le_refl _⟩ rfl (Nat.le_of_ble_eq_true rfl) dX10_ticksTo_30 (st2 := [.int ((S_X10_ticksUntil_B σ α te).1)]) rfl ?_
        refine q_eq (h2 := va_up (va_up (va_up h 36 r1) 37 r7) 38 r8) (by rw [← e_r7, ← e_r8]) rfl ?_
        refine q_goto (tgt := 38) X dX10_ticksTo_33 (by decide) ?_
        refine q_sub (lv2 := [(0, .ref (gA G 36 0)), (1, .int te)]) [0, 1] rfl ?_
        exact hJ9 ((S_X10_ticksUntil_B σ α te).1) r7 r8 (by subst e_r8; subst e_r7; exact ((if_neg c3).trans rfl).symm) (by subst e_r8; subst e_r7; exact ((if_neg c3).trans rfl).symm) (by subst e_r8; subst e_r7; exact ((if_neg c3).trans rfl).symm)
    intro m4 m5 m6 e_m4 e_m5 e_m6
    have E : Z = (m4, r1, m5, m6) := by subst e_m6; subst e_m5; subst e_m4; subst e_r1; exact hZ.symm.trans ((if_neg c2).trans rfl)
    exact q_iret X hret dX10_ticksTo_38 (by rw [E]) (by rw [E])
  · skip
    refine q_ldc X kc_X10_47 dX10_ticksTo_16 ?_
    have E : Z = ((-100001), r1, σ, α) := by subst e_r1; exact hZ.symm.trans ((if_pos c2).trans rfl)
    exact q_iret X hret dX10_ticksTo_18 (by rw [E]) (by rw [E]; (funext x; simp only [va_up]; (repeat' split) <;> first | rfl | omega | (subst_vars; rfl) | (subst_vars; assumption)))
def S_X10_ticksToLoss (κ : Nat → Int32) (σ : Nat → Int32) (α : Nat → Int32) (lo : Int32) : Int32 × (Nat → Int32) × (Nat → Int32) × (Nat → Int32) := let r1 : Nat → Int32 := va_up κ 0 0; if (S_X10_in lo 0 100000) = 0 then (((-100001), r1, σ, α)) else (let m4 : Int32 := if (S_X10_isRoasting σ) = 0 then ((-100002)) else (let r7 : Nat → Int32 := (S_X10_ticksUntil_L σ α lo).2.1; let r8 : Nat → Int32 := (S_X10_ticksUntil_L σ α lo).2.2; (S_X10_ticksUntil_L σ α lo).1); let m5 : Nat → Int32 := if (S_X10_isRoasting σ) = 0 then (σ) else (let r7 : Nat → Int32 := (S_X10_ticksUntil_L σ α lo).2.1; let r8 : Nat → Int32 := (S_X10_ticksUntil_L σ α lo).2.2; r7); let m6 : Nat → Int32 := if (S_X10_isRoasting σ) = 0 then (α) else (let r7 : Nat → Int32 := (S_X10_ticksUntil_L σ α lo).2.1; (S_X10_ticksUntil_L σ α lo).2.2); (m4, r1, m5, m6))
set_option maxRecDepth 100000 in
set_option maxHeartbeats 4000000 in
theorem c_X10_ticksToLoss {G : Geo} {l : Launch} (hG : GOK G) {h : Hp} {κ : Nat → Int32} {σ : Nat → Int32} {α : Nat → Int32} (lo : Int32) (hM : MT G) (hr_36 : h 36 = κ) (hr_37 : h 37 = σ) (hr_38 : h 38 = α) (hI : MI σ) : CM G l yX10_ticksToLoss cX10_ticksToLoss 2 (some .int) 5 116 [.ref (gA G 36 0), .int lo] h (va_up (va_up (va_up h 36 ((S_X10_ticksToLoss κ σ α lo).2.1)) 37 ((S_X10_ticksToLoss κ σ α lo).2.2.1)) 38 ((S_X10_ticksToLoss κ σ α lo).2.2.2)) (some (.int ((S_X10_ticksToLoss κ σ α lo).1))) := by
  obtain ⟨Z, hZ⟩ : ∃ Z, S_X10_ticksToLoss κ σ α lo = Z := ⟨_, rfl⟩
  rw [hZ]
  refine q_enter hG mf_X10_ticksToLoss (Nat.le_of_ble_eq_true rfl) ?_
  intro p e s m below meth c X hret
  have hT_36 : gT G 36 = 9 := hM 36 (by decide) (by decide)
  have hT_37 : gT G 37 = 10 := hM 37 (by decide) (by decide)
  have hT_38 : gT G 38 = 10 := hM 38 (by decide) (by decide)
  refine q_lv (lv2 := [(0, .ref (gA G 36 0)), (1, .int lo)]) rfl ?_
  refine q_aload_n X 0 dX10_ticksToLoss_0 rfl ?_
  refine q_iconst (v := 0) X dX10_ticksToLoss_1 (by decide) ?_
  obtain ⟨r1, e_r1⟩ : ∃ z : Nat → Int32, z = va_up κ 0 0 := ⟨_, rfl⟩
  refine q_put (fk := 0) (h2 := va_up h 36 r1) X cf_X10 (ac_9_0 hT_36) (by decide) fl_X10_25 rfl rfl (by rw [hT_36]; rfl) rfl rfl rfl dX10_ticksToLoss_2 (hr_36) (by rw [e_r1]) ?_
  refine q_iload_n X 1 dX10_ticksToLoss_5 rfl ?_
  refine q_iconst (v := 0) X dX10_ticksToLoss_6 (by decide) ?_
  refine q_ldc X kc_X10_134 dX10_ticksToLoss_7 ?_
  refine q_callS (h1 := _) (rest := []) (As := [.int lo, .int 0, .int 100000]) X (c_X10_in (l := l) hG   lo 0 100000 ) mf_X10_in ms_X10_in lk_X10_39 rfl ⟨by decide, by decide⟩ ⟨Nat.le_refl _, Nat.le_refl _⟩ rfl (Nat.le_of_ble_eq_true rfl) dX10_ticksToLoss_9 (st2 := [.int (S_X10_in lo 0 100000)]) rfl ?_
  refine q_if_ne (tgt := 18) X dX10_ticksToLoss_12 (by decide) (fun c2 => ?_) (fun c2 => ?_)
  · skip
    refine q_aload_n X 0 dX10_ticksToLoss_18 rfl ?_
    refine q_callV (h1 := _) (rest := []) (As := []) X (c_X10_isRoasting (l := l) hG (σ := σ)   hM ((va_up_ne _ _ (by decide)).trans (hr_37))) mf_X10_isRoasting mv_X10_isRoasting cf_X10 rfl (ac_9_0 hT_36) lk_X10_96 rfl ⟨by decide, by decide⟩ ⟨Nat.le_refl _, Nat.le_refl _⟩ rfl (Nat.le_of_ble_eq_true rfl) dX10_ticksToLoss_19 (st2 := [.int (S_X10_isRoasting σ)]) rfl ?_
    suffices hJ9 : ∀ (m4 : Int32) (m5 : Nat → Int32) (m6 : Nat → Int32), m4 = (if (S_X10_isRoasting σ) = 0 then ((-100002)) else (let r7 : Nat → Int32 := (S_X10_ticksUntil_L σ α lo).2.1; let r8 : Nat → Int32 := (S_X10_ticksUntil_L σ α lo).2.2; (S_X10_ticksUntil_L σ α lo).1)) → m5 = (if (S_X10_isRoasting σ) = 0 then (σ) else (let r7 : Nat → Int32 := (S_X10_ticksUntil_L σ α lo).2.1; let r8 : Nat → Int32 := (S_X10_ticksUntil_L σ α lo).2.2; r7)) → m6 = (if (S_X10_isRoasting σ) = 0 then (α) else (let r7 : Nat → Int32 := (S_X10_ticksUntil_L σ α lo).2.1; (S_X10_ticksUntil_L σ α lo).2.2)) → VV G (AA G) p l e { frames := 5, cells := 0, slots := 0, locals := 116 } s m ([.ref (gA G 36 0), .int lo] : List Value).toArray below meth c 0 0 (MQ below (QC G (va_up (va_up (va_up h 36 Z.2.1) 37 Z.2.2.1) 38 Z.2.2.2) (some (.int Z.1))) ([.ref (gA G 36 0), .int lo] : List Value).toArray s 0 0 (AA G)) 2 (va_up (va_up (va_up h 36 r1) 37 m5) 38 m6) 37 [(0, .ref (gA G 36 0)), (1, .int lo)] [.int m4] by
      refine q_if_eq (tgt := 35) X dX10_ticksToLoss_22 (by decide) (fun c3 => ?_) (fun c3 => ?_)
      · skip
        refine q_ldc X kc_X10_61 dX10_ticksToLoss_35 ?_
        refine q_sub (lv2 := [(0, .ref (gA G 36 0)), (1, .int lo)]) [0, 1] rfl ?_
        refine q_eq (h2 := va_up (va_up (va_up h 36 r1) 37 σ) 38 α) (by funext x; simp only [va_up]; (repeat' split) <;> first | rfl | omega | (subst_vars; rfl)) rfl ?_
        exact hJ9 (-100002) σ α (by exact ((if_pos c3).trans rfl).symm) (by exact ((if_pos c3).trans rfl).symm) (by exact ((if_pos c3).trans rfl).symm)
      · skip
        refine q_aload_n X 0 dX10_ticksToLoss_25 rfl ?_
        refine q_bipush (v := 19) X dX10_ticksToLoss_26 (by decide) ?_
        refine q_iload_n X 1 dX10_ticksToLoss_28 rfl ?_
        obtain ⟨r7, e_r7⟩ : ∃ z : Nat → Int32, z = (S_X10_ticksUntil_L σ α lo).2.1 := ⟨_, rfl⟩
        obtain ⟨r8, e_r8⟩ : ∃ z : Nat → Int32, z = (S_X10_ticksUntil_L σ α lo).2.2 := ⟨_, rfl⟩
        refine q_callV (h1 := _) (rest := []) (As := [.int 19, .int lo]) X (c_X10_ticksUntil_L (l := l) hG (σ := σ) (α := α)  lo hM ((va_up_ne _ _ (by decide)).trans (hr_37)) ((va_up_ne _ _ (by decide)).trans (hr_38)) hI) mf_X10_ticksUntil mv_X10_ticksUntil cf_X10 rfl (ac_9_0 hT_36) lk_X10_131 rfl ⟨by decide, by decide⟩ ⟨Nat.le_refl _, Nat.le_refl _⟩ rfl (Nat.le_of_ble_eq_true rfl) dX10_ticksToLoss_29 (st2 := [.int ((S_X10_ticksUntil_L σ α lo).1)]) rfl ?_
        refine q_eq (h2 := va_up (va_up (va_up h 36 r1) 37 r7) 38 r8) (by rw [← e_r7, ← e_r8]) rfl ?_
        refine q_goto (tgt := 37) X dX10_ticksToLoss_32 (by decide) ?_
        refine q_sub (lv2 := [(0, .ref (gA G 36 0)), (1, .int lo)]) [0, 1] rfl ?_
        exact hJ9 ((S_X10_ticksUntil_L σ α lo).1) r7 r8 (by subst e_r8; subst e_r7; exact ((if_neg c3).trans rfl).symm) (by subst e_r8; subst e_r7; exact ((if_neg c3).trans rfl).symm) (by subst e_r8; subst e_r7; exact ((if_neg c3).trans rfl).symm)
    intro m4 m5 m6 e_m4 e_m5 e_m6
    have E : Z = (m4, r1, m5, m6) := by subst e_m6; subst e_m5; subst e_m4; subst e_r1; exact hZ.symm.trans ((if_neg c2).trans rfl)
    exact q_iret X hret dX10_ticksToLoss_37 (by rw [E]) (by rw [E])
  · skip
    refine q_ldc X kc_X10_47 dX10_ticksToLoss_15 ?_
    have E : Z = ((-100001), r1, σ, α) := by subst e_r1; exact hZ.symm.trans ((if_pos c2).trans rfl)
    exact q_iret X hret dX10_ticksToLoss_17 (by rw [E]) (by rw [E]; (funext x; simp only [va_up]; (repeat' split) <;> first | rfl | omega | (subst_vars; rfl) | (subst_vars; assumption)))
def L_X10_offWith_21 (fu : Nat) (σ : Nat → Int32) (α : Nat → Int32) (bi : Int32) (ti : Int32) (of : Int32) (k : Int32) (σ1 : Nat → Int32) : Int32 × (Nat → Int32) := match fu with
  | 0 => (0, (fun _ => 0))
  | fu + 1 => if ti ≤ k then (let r4 : Nat → Int32 := S_X10_release σ1 α; (of, r4)) else (let r5 : Nat → Int32 := S_X10_tick σ1; let m7 : Int32 := if 0 ≤ ((S_X10_targetAt r5 (r5 18)) - (r5 4)) then ((S_X10_targetAt r5 (r5 18)) - (r5 4)) else (-((S_X10_targetAt r5 (r5 18)) - (r5 4))); L_X10_offWith_21 fu σ α bi ti (of + m7) (k + 1) r5)
def S_X10_offWith (σ : Nat → Int32) (α : Nat → Int32) (bi : Int32) (ti : Int32) : Int32 × (Nat → Int32) := let r1 : Nat → Int32 := va_up σ 9 1; let r2 : Nat → Int32 := va_up r1 12 bi; L_X10_offWith_21 ((ti.toInt - (0 : Int32).toInt).toNat + 1) σ α bi ti 0 0 r2
set_option maxRecDepth 100000 in
set_option maxHeartbeats 4000000 in
theorem w_X10_offWith_21 {G : Geo} {p : Program} {l : Launch} {e : Env} {s : State} {m : MethodId} {args : Array Value} {below : List Frame} {meth : Method} {c : Code} {h : Hp} {σ : Nat → Int32} {α : Nat → Int32} {bi : Int32} {ti : Int32} (X : CX G (AA G) p s m meth c RX10 cX10_offWith 6) (hret : meth.sig.returnType = (some .int)) (hM : MT G) (hr_37 : h 37 = σ) (hr_38 : h 38 = α) (hI : MI σ) (Z : Int32 × (Nat → Int32)) : ∀ (fu : Nat) (of : Int32) (k : Int32) (σ1 : Nat → Int32), (MI σ1) → (ti.toInt - k.toInt).toNat < fu → L_X10_offWith_21 fu σ α bi ti of k σ1 = Z → VV G (AA G) p l e { frames := 4, cells := 0, slots := 0, locals := 92 } s m args below meth c 0 0 (MQ below (QC G (va_up h 37 Z.2) (some (.int Z.1))) args s 0 0 (AA G)) 6 (va_up h 37 σ1) 21 [(0, .ref (gA G 36 0)), (1, .int bi), (2, .int ti), (3, .int of), (4, .int k)] [] := by
  intro fu
  induction fu with
  | zero =>
    intro of k σ1 hI1 hm
    exact absurd hm (Nat.not_lt_zero _)
  | succ fu ih =>
    intro of k σ1 hI1 hm hZ
    have hG := X.2.2.2.2.2.1
    have hT_36 : gT G 36 = 9 := hM 36 (by decide) (by decide)
    have hT_37 : gT G 37 = 10 := hM 37 (by decide) (by decide)
    have hT_38 : gT G 38 = 10 := hM 38 (by decide) (by decide)
    refine q_iload X 4 dX10_offWith_21 rfl ?_
    refine q_iload_n X 2 dX10_offWith_23 rfl ?_
    refine q_icmp_ge (tgt := 73) X dX10_offWith_24 (by decide) (fun c3 => ?_) (fun c3 => ?_)
    · skip
      refine q_aload_n X 0 dX10_offWith_73 rfl ?_
      obtain ⟨r4, e_r4⟩ : ∃ z : Nat → Int32, z = S_X10_release σ1 α := ⟨_, rfl⟩
      refine q_callV (h1 := _) (rest := []) (As := []) X (c_X10_release (l := l) hG (σ := σ1) (α := α)   hM (va_up_self _ _ _) ((va_up_ne _ _ (by decide)).trans (hr_38))) mf_X10_release mv_X10_release cf_X10 rfl (ac_9_0 hT_36) lk_X10_92 rfl ⟨by decide, by decide⟩ ⟨Nat.le_refl _, Nat.le_refl _⟩ rfl (Nat.le_of_ble_eq_true rfl) dX10_offWith_74 (st2 := []) rfl ?_
      refine q_eq (h2 := va_up h 37 r4) (by rw [e_r4]; exact va_up_up _ _ _ _) rfl ?_
      refine q_iload_n X 3 dX10_offWith_77 rfl ?_
      have E : Z = (of, r4) := by subst e_r4; exact hZ.symm.trans ((if_pos c3).trans rfl)
      exact q_iret X hret dX10_offWith_78 (by rw [E]) (by rw [E])
    · skip
      refine q_aload_n X 0 dX10_offWith_27 rfl ?_
      obtain ⟨r5, e_r5⟩ : ∃ z : Nat → Int32, z = S_X10_tick σ1 := ⟨_, rfl⟩
      refine q_callV (h1 := _) (rest := []) (As := []) X (c_X10_tick (l := l) hG (σ := σ1)   hM (va_up_self _ _ _) hI1) mf_X10_tick mv_X10_tick cf_X10 rfl (ac_9_0 hT_36) lk_X10_122 rfl ⟨by decide, by decide⟩ ⟨Nat.le_refl _, Nat.le_refl _⟩ rfl (Nat.le_of_ble_eq_true rfl) dX10_offWith_28 (st2 := []) rfl ?_
      refine q_eq (h2 := va_up h 37 r5) (by rw [e_r5]; exact va_up_up _ _ _ _) rfl ?_
      refine q_aload_n X 0 dX10_offWith_31 rfl ?_
      refine q_aload_n X 0 dX10_offWith_32 rfl ?_
      refine q_get (fk := 1) (v := .ref (gA G 37 0)) X cf_X10 (ac_9_0 hT_36) (by decide) fl_X10_7 rfl rfl dX10_offWith_33 rfl ?_
      refine q_bipush (v := 18) X dX10_offWith_36 (by decide) ?_
      refine q_iald (x := r5 18) X (ac_10_0 hT_37) (by rw [hT_37]; exact vin_lit (by decide)) dX10_offWith_38 (va_up_self _ _ _) rfl ?_
      refine q_callV (h1 := _) (rest := []) (As := [.int (r5 18)]) X (c_X10_targetAt (l := l) hG (σ := r5)  (r5 18) hM (va_up_self _ _ _) (by subst_vars; exact MI_X10_tick hI1)) mf_X10_targetAt mv_X10_targetAt cf_X10 rfl (ac_9_0 hT_36) lk_X10_106 rfl ⟨by decide, by decide⟩ ⟨Nat.le_refl _, Nat.le_refl _⟩ rfl (Nat.le_of_ble_eq_true rfl) dX10_offWith_39 (st2 := [.int (S_X10_targetAt r5 (r5 18))]) rfl ?_
      refine q_aload_n X 0 dX10_offWith_42 rfl ?_
      refine q_get (fk := 1) (v := .ref (gA G 37 0)) X cf_X10 (ac_9_0 hT_36) (by decide) fl_X10_7 rfl rfl dX10_offWith_43 rfl ?_
      refine q_iconst (v := 4) X dX10_offWith_46 (by decide) ?_
      refine q_iald (x := r5 4) X (ac_10_0 hT_37) (by rw [hT_37]; exact vin_lit (by decide)) dX10_offWith_47 (va_up_self _ _ _) rfl ?_
      refine q_isub X dX10_offWith_48 ?_
      refine q_istore (lv' := [(5, .int ((S_X10_targetAt r5 (r5 18)) - (r5 4))), (0, .ref (gA G 36 0)), (1, .int bi), (2, .int ti), (3, .int of), (4, .int k)]) X dX10_offWith_49 (by decide) rfl ?_
      refine q_iload_n X 4 dX10_offWith_51 rfl ?_
      refine q_iload X 0 dX10_offWith_52 rfl ?_
      suffices hJ8 : ∀ (m7 : Int32), m7 = (if 0 ≤ ((S_X10_targetAt r5 (r5 18)) - (r5 4)) then ((S_X10_targetAt r5 (r5 18)) - (r5 4)) else (-((S_X10_targetAt r5 (r5 18)) - (r5 4)))) → VV G (AA G) p l e { frames := 4, cells := 0, slots := 0, locals := 92 } s m args below meth c 0 0 (MQ below (QC G (va_up h 37 Z.2) (some (.int Z.1))) args s 0 0 (AA G)) 6 (va_up h 37 r5) 65 [(5, .int ((S_X10_targetAt r5 (r5 18)) - (r5 4))), (0, .ref (gA G 36 0)), (1, .int bi), (2, .int ti), (3, .int of), (4, .int k)] [.int m7, .int of] by
        refine q_if_ge (tgt := 63) X dX10_offWith_54 (by decide) (fun c6 => ?_) (fun c6 => ?_)
        · skip
          refine q_iload X 0 dX10_offWith_63 rfl ?_
          refine q_sub (lv2 := [(5, .int ((S_X10_targetAt r5 (r5 18)) - (r5 4))), (0, .ref (gA G 36 0)), (1, .int bi), (2, .int ti), (3, .int of), (4, .int k)]) [0, 1, 2, 3, 4, 5] rfl ?_
          exact hJ8 ((S_X10_targetAt r5 (r5 18)) - (r5 4)) (by exact ((if_pos c6).trans rfl).symm)
        · skip
          refine q_iload X 0 dX10_offWith_57 rfl ?_
          refine q_ineg X dX10_offWith_59 ?_
          refine q_goto (tgt := 65) X dX10_offWith_60 (by decide) ?_
          refine q_sub (lv2 := [(5, .int ((S_X10_targetAt r5 (r5 18)) - (r5 4))), (0, .ref (gA G 36 0)), (1, .int bi), (2, .int ti), (3, .int of), (4, .int k)]) [0, 1, 2, 3, 4, 5] rfl ?_
          exact hJ8 (-((S_X10_targetAt r5 (r5 18)) - (r5 4))) (by exact ((if_neg c6).trans rfl).symm)
      intro m7 e_m7
      refine q_iadd X dX10_offWith_65 ?_
      refine q_istore_n (lv' := [(3, .int (of + m7)), (5, .int ((S_X10_targetAt r5 (r5 18)) - (r5 4))), (0, .ref (gA G 36 0)), (1, .int bi), (2, .int ti), (4, .int k)]) X dX10_offWith_66 (by decide) rfl ?_
      refine q_iinc (v := k + 1) (lv' := [(4, .int (k + 1)), (3, .int (of + m7)), (5, .int ((S_X10_targetAt r5 (r5 18)) - (r5 4))), (0, .ref (gA G 36 0)), (1, .int bi), (2, .int ti)]) X 5 dX10_offWith_67 rfl rfl (by decide) rfl ?_
      refine q_goto (tgt := 21) X dX10_offWith_70 (by decide) ?_
      refine q_sub (lv2 := [(0, .ref (gA G 36 0)), (1, .int bi), (2, .int ti), (3, .int (of + m7)), (4, .int (k + 1))]) [3, 4, 5, 1, 0] rfl ?_
      have E : L_X10_offWith_21 fu σ α bi ti (of + m7) (k + 1) r5 = Z := Eq.trans (Eq.symm (by subst e_m7; subst e_r5; exact (if_neg c3).trans rfl)) hZ
      exact ih (of + m7) (k + 1) r5 (by subst e_m7; subst e_r5; exact MI_X10_tick hI1) (by subst e_m7; subst e_r5; exact ms_up c3 hm) E
set_option maxRecDepth 100000 in
set_option maxHeartbeats 4000000 in
theorem c_X10_offWith {G : Geo} {l : Launch} (hG : GOK G) {h : Hp} {σ : Nat → Int32} {α : Nat → Int32} (bi : Int32) (ti : Int32) (hM : MT G) (hr_37 : h 37 = σ) (hr_38 : h 38 = α) (hI : MI σ) : CM G l yX10_offWith cX10_offWith 6 (some .int) 4 92 [.ref (gA G 36 0), .int bi, .int ti] h (va_up h 37 ((S_X10_offWith σ α bi ti).2)) (some (.int ((S_X10_offWith σ α bi ti).1))) := by
  obtain ⟨Z, hZ⟩ : ∃ Z, S_X10_offWith σ α bi ti = Z := ⟨_, rfl⟩
  rw [hZ]
  refine q_enter hG mf_X10_offWith (Nat.le_of_ble_eq_true rfl) ?_
  intro p e s m below meth c X hret
  have hT_36 : gT G 36 = 9 := hM 36 (by decide) (by decide)
  have hT_37 : gT G 37 = 10 := hM 37 (by decide) (by decide)
  have hT_38 : gT G 38 = 10 := hM 38 (by decide) (by decide)
  refine q_lv (lv2 := [(0, .ref (gA G 36 0)), (1, .int bi), (2, .int ti)]) rfl ?_
  refine q_aload_n X 0 dX10_offWith_0 rfl ?_
  refine q_get (fk := 1) (v := .ref (gA G 37 0)) X cf_X10 (ac_9_0 hT_36) (by decide) fl_X10_7 rfl rfl dX10_offWith_1 rfl ?_
  refine q_bipush (v := 9) X dX10_offWith_4 (by decide) ?_
  refine q_iconst (v := 1) X dX10_offWith_6 (by decide) ?_
  obtain ⟨r1, e_r1⟩ : ∃ z : Nat → Int32, z = va_up σ 9 1 := ⟨_, rfl⟩
  refine q_iast (h2 := va_up h 37 r1) X (ac_10_0 hT_37) (by rw [hT_37]; exact vin_lit (by decide)) dX10_offWith_7 (hr_37) (by rw [show 0 + 1 * Int32.toNatClampNeg 9 = 9 from rfl, e_r1]) ?_
  refine q_aload_n X 0 dX10_offWith_8 rfl ?_
  refine q_get (fk := 1) (v := .ref (gA G 37 0)) X cf_X10 (ac_9_0 hT_36) (by decide) fl_X10_7 rfl rfl dX10_offWith_9 rfl ?_
  refine q_bipush (v := 12) X dX10_offWith_12 (by decide) ?_
  refine q_iload_n X 1 dX10_offWith_14 rfl ?_
  obtain ⟨r2, e_r2⟩ : ∃ z : Nat → Int32, z = va_up r1 12 bi := ⟨_, rfl⟩
  refine q_iast (h2 := va_up h 37 r2) X (ac_10_0 hT_37) (by rw [hT_37]; exact vin_lit (by decide)) dX10_offWith_15 (va_up_self _ _ _) (by rw [show 0 + 1 * Int32.toNatClampNeg 12 = 12 from rfl, e_r2, va_up_up]) ?_
  refine q_iconst (v := 0) X dX10_offWith_16 (by decide) ?_
  refine q_istore_n (lv' := [(3, .int 0), (0, .ref (gA G 36 0)), (1, .int bi), (2, .int ti)]) X dX10_offWith_17 (by decide) rfl ?_
  refine q_iconst (v := 0) X dX10_offWith_18 (by decide) ?_
  refine q_istore (lv' := [(4, .int 0), (3, .int 0), (0, .ref (gA G 36 0)), (1, .int bi), (2, .int ti)]) X dX10_offWith_19 (by decide) rfl ?_
  refine q_sub (lv2 := [(0, .ref (gA G 36 0)), (1, .int bi), (2, .int ti), (3, .int 0), (4, .int 0)]) [2, 3, 4, 1, 0] rfl ?_
  have E : L_X10_offWith_21 ((ti.toInt - (0 : Int32).toInt).toNat + 1) σ α bi ti 0 0 r2 = Z := Eq.trans (Eq.symm (by subst e_r2; subst e_r1; exact rfl)) hZ
  exact w_X10_offWith_21 X hret hM hr_37 hr_38 hI Z ((ti.toInt - (0 : Int32).toInt).toNat + 1) 0 0 r2 (by subst e_r2; subst e_r1; exact MI_up (by decide) (by decide) (MI_up (by decide) (by decide) hI)) (by subst e_r2; subst e_r1; exact Nat.lt_succ_self _) E
theorem L_off_MI {σ α : Nat → Int32} {bi ti : Int32} (h : MI α) : ∀ (fu : Nat) (de k : Int32) (σ1 : Nat → Int32), (ti.toInt - k.toInt).toNat < fu → MI (L_X10_offWith_21 fu σ α bi ti de k σ1).2 := by
  intro fu
  induction fu with
  | zero => intro _ _ _ hm; exact absurd hm (Nat.not_lt_zero _)
  | succ fu ih =>
    intro de k σ1 hm
    unfold L_X10_offWith_21
    by_cases c : ti ≤ k
    · rw [if_pos c]
      have hz := MI_release (σ := σ1) h
      generalize S_X10_release σ1 α = z at hz ⊢
      exact hz
    · rw [if_neg c]
      exact ih _ _ _ (ms_up c hm)
theorem MI_off {σ α : Nat → Int32} {bi ti : Int32} (h : MI α) : MI (S_X10_offWith σ α bi ti).2 := by
  refine L_off_MI h _ _ _ _ (Nat.lt_succ_self _)
def L_X10_bestBias_54 (fu : Nat) (κ : Nat → Int32) (σ : Nat → Int32) (α : Nat → Int32) (ti : Int32) (be : Int32) (le : Int32) (k : Int32) (κ1 : Nat → Int32) (σ1 : Nat → Int32) (α1 : Nat → Int32) : Int32 × (Nat → Int32) × (Nat → Int32) × (Nat → Int32) := match fu with
  | 0 => (0, (fun _ => 0), (fun _ => 0), (fun _ => 0))
  | fu + 1 => if 100 < k then ((be, κ1, σ1, α1)) else (let r8 : Nat → Int32 := (S_X10_offWith σ1 α1 k ti).2; let m10 : Int32 := if le ≤ ((S_X10_offWith σ1 α1 k ti).1) then (be) else (k); let m13 : Int32 := if le ≤ ((S_X10_offWith σ1 α1 k ti).1) then (le) else ((S_X10_offWith σ1 α1 k ti).1); L_X10_bestBias_54 fu κ σ α ti m10 m13 (k + 1) κ1 r8 α1)
def S_X10_bestBias (κ : Nat → Int32) (σ : Nat → Int32) (α : Nat → Int32) (ti : Int32) : Int32 × (Nat → Int32) × (Nat → Int32) × (Nat → Int32) := let r1 : Nat → Int32 := va_up κ 0 0; if (S_X10_in ti 1 100) = 0 then (((-100001), r1, σ, α)) else (if (S_X10_isRoasting σ) = 0 then (((-100002), r1, σ, α)) else (if (σ 32) = 0 then (((-100002), r1, σ, α)) else (let r5 : Nat → Int32 := S_X10_hold σ α; let r6 : Nat → Int32 := (S_X10_offWith σ r5 0 ti).2; L_X10_bestBias_54 102 κ σ α ti 0 ((S_X10_offWith σ r5 0 ti).1) 1 r1 r6 r5)))
set_option maxRecDepth 100000 in
set_option maxHeartbeats 4000000 in
theorem w_X10_bestBias_54 {G : Geo} {p : Program} {l : Launch} {e : Env} {s : State} {m : MethodId} {args : Array Value} {below : List Frame} {meth : Method} {c : Code} {h : Hp} {κ : Nat → Int32} {σ : Nat → Int32} {α : Nat → Int32} {ti : Int32} (X : CX G (AA G) p s m meth c RX10 cX10_bestBias 6) (hret : meth.sig.returnType = (some .int)) (hM : MT G) (hr_36 : h 36 = κ) (hr_37 : h 37 = σ) (hr_38 : h 38 = α) (hI : MI σ) (Z : Int32 × (Nat → Int32) × (Nat → Int32) × (Nat → Int32)) : ∀ (fu : Nat) (be : Int32) (le : Int32) (k : Int32) (κ1 : Nat → Int32) (σ1 : Nat → Int32) (α1 : Nat → Int32), (MI σ1) → (MI α1) → ((100 : Int32).toInt + 1 - k.toInt).toNat < fu → L_X10_bestBias_54 fu κ σ α ti be le k κ1 σ1 α1 = Z → VV G (AA G) p l e { frames := 5, cells := 0, slots := 0, locals := 117 } s m args below meth c 0 0 (MQ below (QC G (va_up (va_up (va_up h 36 Z.2.1) 37 Z.2.2.1) 38 Z.2.2.2) (some (.int Z.1))) args s 0 0 (AA G)) 6 (va_up (va_up (va_up h 36 κ1) 37 σ1) 38 α1) 54 [(0, .ref (gA G 36 0)), (1, .int ti), (2, .int be), (3, .int le), (4, .int k)] [] := by
  intro fu
  induction fu with
  | zero =>
    intro be le k κ1 σ1 α1 hI1 hA1 hm
    exact absurd hm (Nat.not_lt_zero _)
  | succ fu ih =>
    intro be le k κ1 σ1 α1 hI1 hA1 hm hZ
    have hG := X.2.2.2.2.2.1
    have hT_36 : gT G 36 = 9 := hM 36 (by decide) (by decide)
    have hT_37 : gT G 37 = 10 := hM 37 (by decide) (by decide)
    have hT_38 : gT G 38 = 10 := hM 38 (by decide) (by decide)
    refine q_iload X 4 dX10_bestBias_54 rfl ?_
    refine q_bipush (v := 100) X dX10_bestBias_56 (by decide) ?_
    refine q_icmp_gt (tgt := 102) X dX10_bestBias_58 (by decide) (fun c7 => ?_) (fun c7 => ?_)
    · skip
      refine q_iload_n X 2 dX10_bestBias_102 rfl ?_
      have E : Z = (be, κ1, σ1, α1) := by exact hZ.symm.trans ((if_pos c7).trans rfl)
      exact q_iret X hret dX10_bestBias_103 (by rw [E]) (by rw [E])
    · skip
      refine q_aload_n X 0 dX10_bestBias_61 rfl ?_
      refine q_iload X 4 dX10_bestBias_62 rfl ?_
      refine q_iload_n X 1 dX10_bestBias_64 rfl ?_
      obtain ⟨r8, e_r8⟩ : ∃ z : Nat → Int32, z = (S_X10_offWith σ1 α1 k ti).2 := ⟨_, rfl⟩
      refine q_callV (h1 := _) (rest := []) (As := [.int k, .int ti]) X (c_X10_offWith (l := l) hG (σ := σ1) (α := α1)  k ti hM ((va_up_ne _ _ (by decide)).trans (va_up_self _ _ _)) (va_up_self _ _ _) hI1) mf_X10_offWith mv_X10_offWith cf_X10 rfl (ac_9_0 hT_36) lk_X10_135 rfl ⟨by decide, by decide⟩ ⟨Nat.le_refl _, Nat.le_refl _⟩ rfl (Nat.le_of_ble_eq_true rfl) dX10_bestBias_65 (st2 := [.int ((S_X10_offWith σ1 α1 k ti).1)]) rfl ?_
      refine q_eq (h2 := va_up (va_up (va_up h 36 κ1) 38 α1) 37 r8) (by rw [← e_r8]; funext x; simp only [va_up]; (repeat' split) <;> first | rfl | omega) rfl ?_
      refine q_istore (lv' := [(5, .int ((S_X10_offWith σ1 α1 k ti).1)), (0, .ref (gA G 36 0)), (1, .int ti), (2, .int be), (3, .int le), (4, .int k)]) X dX10_bestBias_68 (by decide) rfl ?_
      refine q_iload X 0 dX10_bestBias_70 rfl ?_
      refine q_iload_n X 4 dX10_bestBias_72 rfl ?_
      suffices hJ11 : ∀ (m10 : Int32), m10 = (if le ≤ ((S_X10_offWith σ1 α1 k ti).1) then (be) else (k)) → VV G (AA G) p l e { frames := 5, cells := 0, slots := 0, locals := 117 } s m args below meth c 0 0 (MQ below (QC G (va_up (va_up (va_up h 36 Z.2.1) 37 Z.2.2.1) 38 Z.2.2.2) (some (.int Z.1))) args s 0 0 (AA G)) 6 (va_up (va_up (va_up h 36 κ1) 38 α1) 37 r8) 82 [(5, .int ((S_X10_offWith σ1 α1 k ti).1)), (0, .ref (gA G 36 0)), (1, .int ti), (2, .int be), (3, .int le), (4, .int k)] [.int m10] by
        refine q_icmp_ge (tgt := 81) X dX10_bestBias_73 (by decide) (fun c9 => ?_) (fun c9 => ?_)
        · skip
          refine q_iload_n X 3 dX10_bestBias_81 rfl ?_
          refine q_sub (lv2 := [(5, .int ((S_X10_offWith σ1 α1 k ti).1)), (0, .ref (gA G 36 0)), (1, .int ti), (2, .int be), (3, .int le), (4, .int k)]) [0, 1, 2, 3, 4, 5] rfl ?_
          exact hJ11 be (by exact ((if_pos c9).trans rfl).symm)
        · skip
          refine q_iload X 5 dX10_bestBias_76 rfl ?_
          refine q_goto (tgt := 82) X dX10_bestBias_78 (by decide) ?_
          refine q_sub (lv2 := [(5, .int ((S_X10_offWith σ1 α1 k ti).1)), (0, .ref (gA G 36 0)), (1, .int ti), (2, .int be), (3, .int le), (4, .int k)]) [0, 1, 2, 3, 4, 5] rfl ?_
          exact hJ11 k (by exact ((if_neg c9).trans rfl).symm)
      intro m10 e_m10
      refine q_istore_n (lv' := [(2, .int m10), (5, .int ((S_X10_offWith σ1 α1 k ti).1)), (0, .ref (gA G 36 0)), (1, .int ti), (3, .int le), (4, .int k)]) X dX10_bestBias_82 (by decide) rfl ?_
      refine q_iload X 1 dX10_bestBias_83 rfl ?_
      refine q_iload_n X 4 dX10_bestBias_85 rfl ?_
      suffices hJ14 : ∀ (m13 : Int32), m13 = (if le ≤ ((S_X10_offWith σ1 α1 k ti).1) then (le) else ((S_X10_offWith σ1 α1 k ti).1)) → VV G (AA G) p l e { frames := 5, cells := 0, slots := 0, locals := 117 } s m args below meth c 0 0 (MQ below (QC G (va_up (va_up (va_up h 36 Z.2.1) 37 Z.2.2.1) 38 Z.2.2.2) (some (.int Z.1))) args s 0 0 (AA G)) 6 (va_up (va_up (va_up h 36 κ1) 38 α1) 37 r8) 95 [(2, .int m10), (5, .int ((S_X10_offWith σ1 α1 k ti).1)), (0, .ref (gA G 36 0)), (1, .int ti), (3, .int le), (4, .int k)] [.int m13] by
        refine q_icmp_ge (tgt := 94) X dX10_bestBias_86 (by decide) (fun c12 => ?_) (fun c12 => ?_)
        · skip
          refine q_iload_n X 4 dX10_bestBias_94 rfl ?_
          refine q_sub (lv2 := [(2, .int m10), (5, .int ((S_X10_offWith σ1 α1 k ti).1)), (0, .ref (gA G 36 0)), (1, .int ti), (3, .int le), (4, .int k)]) [0, 1, 2, 3, 4, 5] rfl ?_
          exact hJ14 le (by exact ((if_pos c12).trans rfl).symm)
        · skip
          refine q_iload X 1 dX10_bestBias_89 rfl ?_
          refine q_goto (tgt := 95) X dX10_bestBias_91 (by decide) ?_
          refine q_sub (lv2 := [(2, .int m10), (5, .int ((S_X10_offWith σ1 α1 k ti).1)), (0, .ref (gA G 36 0)), (1, .int ti), (3, .int le), (4, .int k)]) [0, 1, 2, 3, 4, 5] rfl ?_
          exact hJ14 ((S_X10_offWith σ1 α1 k ti).1) (by exact ((if_neg c12).trans rfl).symm)
      intro m13 e_m13
      refine q_istore_n (lv' := [(3, .int m13), (2, .int m10), (5, .int ((S_X10_offWith σ1 α1 k ti).1)), (0, .ref (gA G 36 0)), (1, .int ti), (4, .int k)]) X dX10_bestBias_95 (by decide) rfl ?_
      refine q_iinc (v := k + 1) (lv' := [(4, .int (k + 1)), (3, .int m13), (2, .int m10), (5, .int ((S_X10_offWith σ1 α1 k ti).1)), (0, .ref (gA G 36 0)), (1, .int ti)]) X 5 dX10_bestBias_96 rfl rfl (by decide) rfl ?_
      refine q_goto (tgt := 54) X dX10_bestBias_99 (by decide) ?_
      refine q_sub (lv2 := [(0, .ref (gA G 36 0)), (1, .int ti), (2, .int m10), (3, .int m13), (4, .int (k + 1))]) [4, 5, 2, 1, 0] rfl ?_
      refine q_eq (h2 := va_up (va_up (va_up h 36 κ1) 37 r8) 38 α1) (by funext x; simp only [va_up]; (repeat' split) <;> first | rfl | omega) rfl ?_
      have E : L_X10_bestBias_54 fu κ σ α ti m10 m13 (k + 1) κ1 r8 α1 = Z := Eq.trans (Eq.symm (by subst e_m13; subst e_m10; subst e_r8; exact (if_neg c7).trans rfl)) hZ
      exact ih m10 m13 (k + 1) κ1 r8 α1 (by subst e_m13; subst e_m10; subst e_r8; exact MI_off hA1) (by subst e_m13; subst e_m10; subst e_r8; exact hA1) (by subst e_m13; subst e_m10; subst e_r8; exact ms_gt (by decide) c7 hm) E
set_option maxRecDepth 100000 in
set_option maxHeartbeats 4000000 in
theorem c_X10_bestBias {G : Geo} {l : Launch} (hG : GOK G) {h : Hp} {κ : Nat → Int32} {σ : Nat → Int32} {α : Nat → Int32} (ti : Int32) (hM : MT G) (hr_36 : h 36 = κ) (hr_37 : h 37 = σ) (hr_38 : h 38 = α) (hI : MI σ) : CM G l yX10_bestBias cX10_bestBias 6 (some .int) 5 117 [.ref (gA G 36 0), .int ti] h (va_up (va_up (va_up h 36 ((S_X10_bestBias κ σ α ti).2.1)) 37 ((S_X10_bestBias κ σ α ti).2.2.1)) 38 ((S_X10_bestBias κ σ α ti).2.2.2)) (some (.int ((S_X10_bestBias κ σ α ti).1))) := by
  obtain ⟨Z, hZ⟩ : ∃ Z, S_X10_bestBias κ σ α ti = Z := ⟨_, rfl⟩
  rw [hZ]
  refine q_enter hG mf_X10_bestBias (Nat.le_of_ble_eq_true rfl) ?_
  intro p e s m below meth c X hret
  have hT_36 : gT G 36 = 9 := hM 36 (by decide) (by decide)
  have hT_37 : gT G 37 = 10 := hM 37 (by decide) (by decide)
  have hT_38 : gT G 38 = 10 := hM 38 (by decide) (by decide)
  refine q_lv (lv2 := [(0, .ref (gA G 36 0)), (1, .int ti)]) rfl ?_
  refine q_aload_n X 0 dX10_bestBias_0 rfl ?_
  refine q_iconst (v := 0) X dX10_bestBias_1 (by decide) ?_
  obtain ⟨r1, e_r1⟩ : ∃ z : Nat → Int32, z = va_up κ 0 0 := ⟨_, rfl⟩
  refine q_put (fk := 0) (h2 := va_up h 36 r1) X cf_X10 (ac_9_0 hT_36) (by decide) fl_X10_25 rfl rfl (by rw [hT_36]; rfl) rfl rfl rfl dX10_bestBias_2 (hr_36) (by rw [e_r1]) ?_
  refine q_iload_n X 1 dX10_bestBias_5 rfl ?_
  refine q_iconst (v := 1) X dX10_bestBias_6 (by decide) ?_
  refine q_bipush (v := 100) X dX10_bestBias_7 (by decide) ?_
  refine q_callS (h1 := _) (rest := []) (As := [.int ti, .int 1, .int 100]) X (c_X10_in (l := l) hG   ti 1 100 ) mf_X10_in ms_X10_in lk_X10_39 rfl ⟨by decide, by decide⟩ ⟨Nat.le_refl _, Nat.le_refl _⟩ rfl (Nat.le_of_ble_eq_true rfl) dX10_bestBias_9 (st2 := [.int (S_X10_in ti 1 100)]) rfl ?_
  refine q_if_ne (tgt := 18) X dX10_bestBias_12 (by decide) (fun c2 => ?_) (fun c2 => ?_)
  · skip
    refine q_aload_n X 0 dX10_bestBias_18 rfl ?_
    refine q_callV (h1 := _) (rest := []) (As := []) X (c_X10_isRoasting (l := l) hG (σ := σ)   hM ((va_up_ne _ _ (by decide)).trans (hr_37))) mf_X10_isRoasting mv_X10_isRoasting cf_X10 rfl (ac_9_0 hT_36) lk_X10_96 rfl ⟨by decide, by decide⟩ ⟨Nat.le_refl _, Nat.le_refl _⟩ rfl (Nat.le_of_ble_eq_true rfl) dX10_bestBias_19 (st2 := [.int (S_X10_isRoasting σ)]) rfl ?_
    refine q_if_eq (tgt := 35) X dX10_bestBias_22 (by decide) (fun c3 => ?_) (fun c3 => ?_)
    · skip
      refine q_ldc X kc_X10_61 dX10_bestBias_35 ?_
      have E : Z = ((-100002), r1, σ, α) := by subst e_r1; exact hZ.symm.trans ((if_neg c2).trans ((if_pos c3).trans rfl))
      exact q_iret X hret dX10_bestBias_37 (by rw [E]) (by rw [E]; (funext x; simp only [va_up]; (repeat' split) <;> first | rfl | omega | (subst_vars; rfl) | (subst_vars; assumption)))
    · skip
      refine q_aload_n X 0 dX10_bestBias_25 rfl ?_
      refine q_get (fk := 1) (v := .ref (gA G 37 0)) X cf_X10 (ac_9_0 hT_36) (by decide) fl_X10_7 rfl rfl dX10_bestBias_26 rfl ?_
      refine q_bipush (v := 32) X dX10_bestBias_29 (by decide) ?_
      refine q_iald (x := σ 32) X (ac_10_0 hT_37) (by rw [hT_37]; exact vin_lit (by decide)) dX10_bestBias_31 ((va_up_ne _ _ (by decide)).trans (hr_37)) rfl ?_
      refine q_if_ne (tgt := 38) X dX10_bestBias_32 (by decide) (fun c4 => ?_) (fun c4 => ?_)
      · skip
        refine q_aload_n X 0 dX10_bestBias_38 rfl ?_
        obtain ⟨r5, e_r5⟩ : ∃ z : Nat → Int32, z = S_X10_hold σ α := ⟨_, rfl⟩
        refine q_callV (h1 := _) (rest := []) (As := []) X (c_X10_hold (l := l) hG (σ := σ) (α := α)   hM ((va_up_ne _ _ (by decide)).trans (hr_37)) ((va_up_ne _ _ (by decide)).trans (hr_38))) mf_X10_hold mv_X10_hold cf_X10 rfl (ac_9_0 hT_36) lk_X10_85 rfl ⟨by decide, by decide⟩ ⟨Nat.le_refl _, Nat.le_refl _⟩ rfl (Nat.le_of_ble_eq_true rfl) dX10_bestBias_39 (st2 := []) rfl ?_
        refine q_eq (h2 := va_up (va_up h 36 r1) 38 r5) (by rw [e_r5]) rfl ?_
        refine q_iconst (v := 0) X dX10_bestBias_42 (by decide) ?_
        refine q_istore_n (lv' := [(2, .int 0), (0, .ref (gA G 36 0)), (1, .int ti)]) X dX10_bestBias_43 (by decide) rfl ?_
        refine q_aload_n X 1 dX10_bestBias_44 rfl ?_
        refine q_iconst (v := 0) X dX10_bestBias_45 (by decide) ?_
        refine q_iload_n X 2 dX10_bestBias_46 rfl ?_
        obtain ⟨r6, e_r6⟩ : ∃ z : Nat → Int32, z = (S_X10_offWith σ r5 0 ti).2 := ⟨_, rfl⟩
        refine q_callV (h1 := _) (rest := []) (As := [.int 0, .int ti]) X (c_X10_offWith (l := l) hG (σ := σ) (α := r5)  0 ti hM ((va_up_ne _ _ (by decide)).trans ((va_up_ne _ _ (by decide)).trans (hr_37))) (va_up_self _ _ _) hI) mf_X10_offWith mv_X10_offWith cf_X10 rfl (ac_9_0 hT_36) lk_X10_135 rfl ⟨by decide, by decide⟩ ⟨Nat.le_refl _, Nat.le_refl _⟩ rfl (Nat.le_of_ble_eq_true rfl) dX10_bestBias_47 (st2 := [.int ((S_X10_offWith σ r5 0 ti).1)]) rfl ?_
        refine q_eq (h2 := va_up (va_up (va_up h 36 r1) 38 r5) 37 r6) (by rw [e_r6]) rfl ?_
        refine q_istore_n (lv' := [(3, .int ((S_X10_offWith σ r5 0 ti).1)), (2, .int 0), (0, .ref (gA G 36 0)), (1, .int ti)]) X dX10_bestBias_50 (by decide) rfl ?_
        refine q_iconst (v := 1) X dX10_bestBias_51 (by decide) ?_
        refine q_istore (lv' := [(4, .int 1), (3, .int ((S_X10_offWith σ r5 0 ti).1)), (2, .int 0), (0, .ref (gA G 36 0)), (1, .int ti)]) X dX10_bestBias_52 (by decide) rfl ?_
        refine q_sub (lv2 := [(0, .ref (gA G 36 0)), (1, .int ti), (2, .int 0), (3, .int ((S_X10_offWith σ r5 0 ti).1)), (4, .int 1)]) [3, 4, 2, 1, 0] rfl ?_
        refine q_eq (h2 := va_up (va_up (va_up h 36 r1) 37 r6) 38 r5) (by funext x; simp only [va_up]; (repeat' split) <;> first | rfl | omega) rfl ?_
        have E : L_X10_bestBias_54 102 κ σ α ti 0 ((S_X10_offWith σ r5 0 ti).1) 1 r1 r6 r5 = Z := Eq.trans (Eq.symm (by subst e_r6; subst e_r5; subst e_r1; exact (if_neg c2).trans ((if_neg c3).trans ((if_neg c4).trans rfl)))) hZ
        exact w_X10_bestBias_54 X hret hM hr_36 hr_37 hr_38 hI Z 102 0 ((S_X10_offWith σ r5 0 ti).1) 1 r1 r6 r5 (by subst e_r6; subst e_r5; subst e_r1; exact MI_off (MI_hold hI)) (by subst e_r6; subst e_r5; subst e_r1; exact MI_hold hI) (by subst e_r6; subst e_r5; subst e_r1; decide) E
      · skip
        refine q_ldc X kc_X10_61 dX10_bestBias_35 ?_
        have E : Z = ((-100002), r1, σ, α) := by subst e_r1; exact hZ.symm.trans ((if_neg c2).trans ((if_neg c3).trans ((if_pos c4).trans rfl)))
        exact q_iret X hret dX10_bestBias_37 (by rw [E]) (by rw [E]; (funext x; simp only [va_up]; (repeat' split) <;> first | rfl | omega | (subst_vars; rfl) | (subst_vars; assumption)))
  · skip
    refine q_ldc X kc_X10_47 dX10_bestBias_15 ?_
    have E : Z = ((-100001), r1, σ, α) := by subst e_r1; exact hZ.symm.trans ((if_pos c2).trans rfl)
    exact q_iret X hret dX10_bestBias_17 (by rw [E]) (by rw [E]; (funext x; simp only [va_up]; (repeat' split) <;> first | rfl | omega | (subst_vars; rfl) | (subst_vars; assumption)))
