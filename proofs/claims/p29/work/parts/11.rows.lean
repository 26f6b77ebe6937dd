/-! measures of the loops -/
theorem ms_up {a k : Int32} {f : Nat} (h : ¬ a ≤ k) (hm : (a.toInt - k.toInt).toNat < f + 1) : (a.toInt - (k + 1).toInt).toNat < f := by
  have h1 := Int32.not_le.mp h
  rw [Int32.lt_iff_toInt_lt] at h1
  have h2 : (k + 1).toInt = k.toInt + 1 := by
    rw [Int32.toInt_add, show (1 : Int32).toInt = 1 from rfl]
    have a1 := Int32.le_toInt k
    have a2 := Int32.toInt_lt a
    exact Int.bmod_eq_of_le (by omega) (by omega)
  omega
theorem ms_dn {a k : Int32} {f : Nat} (h : ¬ k ≤ a) (hm : (k.toInt - a.toInt).toNat < f + 1) : ((k + (-1)).toInt - a.toInt).toNat < f := by
  have h1 := Int32.not_le.mp h
  rw [Int32.lt_iff_toInt_lt] at h1
  have h2 : (k + (-1)).toInt = k.toInt - 1 := by
    rw [Int32.toInt_add, show (-1 : Int32).toInt = -1 from rfl]
    have a1 := Int32.toInt_lt k
    have a2 := Int32.le_toInt a
    exact Int.bmod_eq_of_le (by omega) (by omega)
  omega
theorem S_put_lo {row : Nat → Int32} {o t n sl : Nat} {i v : Int32} (h : sl < o) : S_put row o t n i v sl = row sl := by
  unfold S_put
  split
  · rfl
  · split
    · rfl
    · exact va_up_ne _ _ (by omega)
theorem S_copy_lo {frm row : Nat → Int32} {o t n sl : Nat} (h : sl < o) : S_copy frm row o t n sl = row sl := by
  unfold S_copy
  exact if_neg (fun z => absurd z.1 (by omega))
def L_X6_indexBelow_4 (fu : Nat) (ρ : Nat → Int32) (n : Nat) (key : Int32) (ix : Int32) (k : Int32) : Int32 := match fu with
  | 0 => 0
  | fu + 1 => if (ρ 0) ≤ k then (ix) else (if key < (S_at ρ 1 2 n k) then (ix) else (L_X6_indexBelow_4 fu ρ n key k (k + 1)))
def S_X6_indexBelow (ρ : Nat → Int32) (n : Nat) (key : Int32) : Int32 := L_X6_indexBelow_4 (((ρ 0).toInt - (0 : Int32).toInt).toNat + 1) ρ n key (-1) 0
set_option maxRecDepth 100000 in
set_option maxHeartbeats 4000000 in
theorem w_X6_indexBelow_4 {G : Geo} {p : Program} {l : Launch} {e : Env} {s : State} {m : MethodId} {args : Array Value} {below : List Frame} {meth : Method} {c : Code} {h : Hp} {g : Nat} {ρ : Nat → Int32} {n : Nat} {key : Int32} (X : CX G (AA G) p s m meth c RX6 cX6_indexBelow 4) (hret : meth.sig.returnType = (some .int)) (hT_g : gT G g = 3) (hr_g : h g = ρ) (hn_g : ar_n (gT G g) g = n) (Z : Int32) : ∀ (fu : Nat) (ix : Int32) (k : Int32), ((ρ 0).toInt - k.toInt).toNat < fu → L_X6_indexBelow_4 fu ρ n key ix k = Z → VV G (AA G) p l e { frames := 1, cells := 0, slots := 0, locals := 21 } s m args below meth c 0 0 (MQ below (QC G h (some (.int Z))) args s 0 0 (AA G)) 4 h 4 [(0, .ref (gA G g 0)), (1, .int key), (2, .int ix), (3, .int k)] [] := by
  intro fu
  induction fu with
  | zero =>
    intro ix k  hm
    exact absurd hm (Nat.not_lt_zero _)
  | succ fu ih =>
    intro ix k  hm hZ
    have hG := X.2.2.2.2.2.1
    refine q_iload_n X 3 dX6_indexBelow_4 rfl ?_
    refine q_aload_n X 0 dX6_indexBelow_5 rfl ?_
    refine q_geti (fk := 2) (x := ρ 0) X cf_X6 (ac_3_0 hT_g) (by decide) fl_X6_7 rfl rfl dX6_indexBelow_6 (hr_g) rfl ?_
    refine q_icmp_ge (tgt := 32) X dX6_indexBelow_9 (by decide) (fun c1 => ?_) (fun c1 => ?_)
    · skip
      refine q_iload_n X 2 dX6_indexBelow_32 rfl ?_
      have E : Z = ix := by exact hZ.symm.trans ((if_pos c1).trans rfl)
      exact q_iret X hret dX6_indexBelow_33 (by rw [E]) rfl
    · skip
      refine q_aload_n X 0 dX6_indexBelow_12 rfl ?_
      refine q_get (fk := 0) (v := .ref (gA G g 1)) X cf_X6 (ac_3_0 hT_g) (by decide) fl_X6_19 rfl rfl dX6_indexBelow_13 rfl ?_
      refine q_iload_n X 3 dX6_indexBelow_16 rfl ?_
      refine q_callSN (h1 := _) (rest := []) (As := [.ref (gA G g 1), .int k]) X (c_X9_at (l := l) hG (n := n) (row := ρ) k (ac_3_1 hT_g) (hr_g) hn_g) mf_X9_at ms_X9_at ln_X6_35 rfl ⟨by decide, by decide⟩ ⟨Nat.le_refl _, Nat.le_refl _⟩ rfl (Nat.le_of_ble_eq_true rfl) dX6_indexBelow_17 (st2 := [.int (S_at ρ 1 2 n k)]) rfl ?_
      refine q_iload_n X 1 dX6_indexBelow_20 rfl ?_
      refine q_icmp_gt (tgt := 32) X dX6_indexBelow_21 (by decide) (fun c2 => ?_) (fun c2 => ?_)
      · skip
        refine q_iload_n X 2 dX6_indexBelow_32 rfl ?_
        have E : Z = ix := by exact hZ.symm.trans ((if_neg c1).trans ((if_pos c2).trans rfl))
        exact q_iret X hret dX6_indexBelow_33 (by rw [E]) rfl
      · skip
        refine q_iload_n X 3 dX6_indexBelow_24 rfl ?_
        refine q_istore_n (lv' := [(2, .int k), (0, .ref (gA G g 0)), (1, .int key), (3, .int k)]) X dX6_indexBelow_25 (by decide) rfl ?_
        refine q_iinc (v := k + 1) (lv' := [(3, .int (k + 1)), (2, .int k), (0, .ref (gA G g 0)), (1, .int key)]) X 3 dX6_indexBelow_26 rfl rfl (by decide) rfl ?_
        refine q_goto (tgt := 4) X dX6_indexBelow_29 (by decide) ?_
        refine q_sub (lv2 := [(0, .ref (gA G g 0)), (1, .int key), (2, .int k), (3, .int (k + 1))]) [2, 3, 1, 0] rfl ?_
        have E : L_X6_indexBelow_4 fu ρ n key k (k + 1) = Z := Eq.trans (Eq.symm (by exact (if_neg c1).trans ((if_neg c2).trans rfl))) hZ
        exact ih k (k + 1)  (by exact ms_up c1 hm) E
set_option maxRecDepth 100000 in
set_option maxHeartbeats 4000000 in
theorem c_X6_indexBelow {G : Geo} {l : Launch} (hG : GOK G) {g : Nat} {h : Hp} {ρ : Nat → Int32} {n : Nat} (key : Int32) (hT_g : gT G g = 3) (hr_g : h g = ρ) (hn_g : ar_n (gT G g) g = n) : CM G l yX6_indexBelow cX6_indexBelow 4 (some .int) 1 21 [.ref (gA G g 0), .int key] h h (some (.int (S_X6_indexBelow ρ n key))) := by
  obtain ⟨Z, hZ⟩ : ∃ Z, S_X6_indexBelow ρ n key = Z := ⟨_, rfl⟩
  rw [hZ]
  refine q_enter hG mf_X6_indexBelow (Nat.le_of_ble_eq_true rfl) ?_
  intro p e s m below meth c X hret
  refine q_lv (lv2 := [(0, .ref (gA G g 0)), (1, .int key)]) rfl ?_
  refine q_iconst (v := (-1)) X dX6_indexBelow_0 (by decide) ?_
  refine q_istore_n (lv' := [(2, .int (-1)), (0, .ref (gA G g 0)), (1, .int key)]) X dX6_indexBelow_1 (by decide) rfl ?_
  refine q_iconst (v := 0) X dX6_indexBelow_2 (by decide) ?_
  refine q_istore_n (lv' := [(3, .int 0), (2, .int (-1)), (0, .ref (gA G g 0)), (1, .int key)]) X dX6_indexBelow_3 (by decide) rfl ?_
  refine q_sub (lv2 := [(0, .ref (gA G g 0)), (1, .int key), (2, .int (-1)), (3, .int 0)]) [2, 3, 1, 0] rfl ?_
  have E : L_X6_indexBelow_4 (((ρ 0).toInt - (0 : Int32).toInt).toNat + 1) ρ n key (-1) 0 = Z := Eq.trans (Eq.symm (by exact rfl)) hZ
  exact w_X6_indexBelow_4 X hret hT_g hr_g hn_g Z (((ρ 0).toInt - (0 : Int32).toInt).toNat + 1) (-1) 0  (by exact Nat.lt_succ_self _) E
def S_X6_has (ρ : Nat → Int32) (n : Nat) (key : Int32) : Int32 := if (S_X6_indexBelow ρ n key) < 0 then (0) else (if (S_at ρ 1 2 n (S_X6_indexBelow ρ n key)) = key then (1) else (0))
set_option maxRecDepth 100000 in
set_option maxHeartbeats 4000000 in
theorem c_X6_has {G : Geo} {l : Launch} (hG : GOK G) {g : Nat} {h : Hp} {ρ : Nat → Int32} {n : Nat} (key : Int32) (hT_g : gT G g = 3) (hr_g : h g = ρ) (hn_g : ar_n (gT G g) g = n) : CM G l yX6_has cX6_has 3 (some .boolean) 2 44 [.ref (gA G g 0), .int key] h h (some (.int (S_X6_has ρ n key))) := by
  obtain ⟨Z, hZ⟩ : ∃ Z, S_X6_has ρ n key = Z := ⟨_, rfl⟩
  rw [hZ]
  refine q_enter hG mf_X6_has (Nat.le_of_ble_eq_true rfl) ?_
  intro p e s m below meth c X hret
  refine q_lv (lv2 := [(0, .ref (gA G g 0)), (1, .int key)]) rfl ?_
  refine q_aload_n X 0 dX6_has_0 rfl ?_
  refine q_iload_n X 1 dX6_has_1 rfl ?_
  refine q_callV (h1 := _) (rest := []) (As := [.int key]) X (c_X6_indexBelow (l := l) hG (ρ := ρ) (n := n) key hT_g (hr_g) hn_g) mf_X6_indexBelow mv_X6_indexBelow cf_X6 rfl (ac_3_0 hT_g) lk_X6_39 rfl ⟨by decide, by decide⟩ ⟨Nat.le_refl _, Nat.le_refl _⟩ rfl (Nat.le_of_ble_eq_true rfl) dX6_has_2 (st2 := [.int (S_X6_indexBelow ρ n key)]) rfl ?_
  refine q_istore_n (lv' := [(2, .int (S_X6_indexBelow ρ n key)), (0, .ref (gA G g 0)), (1, .int key)]) X dX6_has_5 (by decide) rfl ?_
  refine q_iload_n X 0 dX6_has_6 rfl ?_
  refine q_if_lt (tgt := 26) X dX6_has_7 (by decide) (fun c1 => ?_) (fun c1 => ?_)
  · skip
    refine q_iconst (v := 0) X dX6_has_26 (by decide) ?_
    have E : Z = 0 := by exact hZ.symm.trans ((if_pos c1).trans rfl)
    exact q_zret X hret rfl dX6_has_27 (by rw [E]) rfl
  · skip
    refine q_aload_n X 1 dX6_has_10 rfl ?_
    refine q_get (fk := 0) (v := .ref (gA G g 1)) X cf_X6 (ac_3_0 hT_g) (by decide) fl_X6_19 rfl rfl dX6_has_11 rfl ?_
    refine q_iload_n X 0 dX6_has_14 rfl ?_
    refine q_callSN (h1 := _) (rest := []) (As := [.ref (gA G g 1), .int (S_X6_indexBelow ρ n key)]) X (c_X9_at (l := l) hG (n := n) (row := ρ) (S_X6_indexBelow ρ n key) (ac_3_1 hT_g) (hr_g) hn_g) mf_X9_at ms_X9_at ln_X6_35 rfl ⟨by decide, by decide⟩ ⟨Nat.le_refl _, Nat.le_refl _⟩ rfl (Nat.le_of_ble_eq_true rfl) dX6_has_15 (st2 := [.int (S_at ρ 1 2 n (S_X6_indexBelow ρ n key))]) rfl ?_
    refine q_iload_n X 2 dX6_has_18 rfl ?_
    refine q_icmp_ne (tgt := 26) X dX6_has_19 (by decide) (fun c2 => ?_) (fun c2 => ?_)
    · skip
      refine q_iconst (v := 0) X dX6_has_26 (by decide) ?_
      have E : Z = 0 := by exact hZ.symm.trans ((if_neg c1).trans ((if_neg c2).trans rfl))
      exact q_zret X hret rfl dX6_has_27 (by rw [E]) rfl
    · skip
      refine q_iconst (v := 1) X dX6_has_22 (by decide) ?_
      refine q_goto (tgt := 27) X dX6_has_23 (by decide) ?_
      have E : Z = 1 := by exact hZ.symm.trans ((if_neg c1).trans ((if_pos c2).trans rfl))
      exact q_zret X hret rfl dX6_has_27 (by rw [E]) rfl
theorem Z_X6_has (ρ : Nat → Int32) (n : Nat) (key : Int32) : (S_X6_has ρ n key) = 0 ∨ (S_X6_has ρ n key) = 1 := by
  unfold S_X6_has
  (repeat' split) <;> first | exact Or.inl rfl | exact Or.inr rfl
def S_X6_hasRoomFor (ρ : Nat → Int32) (n : Nat) (key : Int32) : Int32 := if (ρ 0) < (Int32.ofNat n) then (1) else (if (S_X6_has ρ n key) = 0 then (0) else (1))
set_option maxRecDepth 100000 in
set_option maxHeartbeats 4000000 in
theorem c_X6_hasRoomFor {G : Geo} {l : Launch} (hG : GOK G) {g : Nat} {h : Hp} {ρ : Nat → Int32} {n : Nat} (key : Int32) (hT_g : gT G g = 3) (hr_g : h g = ρ) (hn_g : ar_n (gT G g) g = n) : CM G l yX6_hasRoomFor cX6_hasRoomFor 2 (some .boolean) 3 66 [.ref (gA G g 0), .int key] h h (some (.int (S_X6_hasRoomFor ρ n key))) := by
  obtain ⟨Z, hZ⟩ : ∃ Z, S_X6_hasRoomFor ρ n key = Z := ⟨_, rfl⟩
  rw [hZ]
  refine q_enter hG mf_X6_hasRoomFor (Nat.le_of_ble_eq_true rfl) ?_
  intro p e s m below meth c X hret
  refine q_lv (lv2 := [(0, .ref (gA G g 0)), (1, .int key)]) rfl ?_
  refine q_aload_n X 0 dX6_hasRoomFor_0 rfl ?_
  refine q_geti (fk := 2) (x := ρ 0) X cf_X6 (ac_3_0 hT_g) (by decide) fl_X6_7 rfl rfl dX6_hasRoomFor_1 (hr_g) rfl ?_
  refine q_aload_n X 0 dX6_hasRoomFor_4 rfl ?_
  refine q_get (fk := 0) (v := .ref (gA G g 1)) X cf_X6 (ac_3_0 hT_g) (by decide) fl_X6_19 rfl rfl dX6_hasRoomFor_5 rfl ?_
  refine q_alen (x := Int32.ofNat n) X (ac_3_1 hT_g) dX6_hasRoomFor_8 (by rw [hn_g]) ?_
  refine q_icmp_lt (tgt := 20) X dX6_hasRoomFor_9 (by decide) (fun c1 => ?_) (fun c1 => ?_)
  · skip
    refine q_iconst (v := 1) X dX6_hasRoomFor_20 (by decide) ?_
    refine q_goto (tgt := 25) X dX6_hasRoomFor_21 (by decide) ?_
    have E : Z = 1 := by exact hZ.symm.trans ((if_pos c1).trans rfl)
    exact q_zret X hret rfl dX6_hasRoomFor_25 (by rw [E]) rfl
  · skip
    refine q_aload_n X 0 dX6_hasRoomFor_12 rfl ?_
    refine q_iload_n X 1 dX6_hasRoomFor_13 rfl ?_
    refine q_callV (h1 := _) (rest := []) (As := [.int key]) X (c_X6_has (l := l) hG (ρ := ρ) (n := n) key hT_g (hr_g) hn_g) mf_X6_has mv_X6_has cf_X6 rfl (ac_3_0 hT_g) lk_X6_43 rfl ⟨by decide, by decide⟩ ⟨Nat.le_refl _, Nat.le_refl _⟩ rfl (Nat.le_of_ble_eq_true rfl) dX6_hasRoomFor_14 (st2 := [.int (S_X6_has ρ n key)]) rfl ?_
    refine q_if_eq (tgt := 24) X dX6_hasRoomFor_17 (by decide) (fun c2 => ?_) (fun c2 => ?_)
    · skip
      refine q_iconst (v := 0) X dX6_hasRoomFor_24 (by decide) ?_
      have E : Z = 0 := by exact hZ.symm.trans ((if_neg c1).trans ((if_pos c2).trans rfl))
      exact q_zret X hret rfl dX6_hasRoomFor_25 (by rw [E]) rfl
    · skip
      refine q_iconst (v := 1) X dX6_hasRoomFor_20 (by decide) ?_
      refine q_goto (tgt := 25) X dX6_hasRoomFor_21 (by decide) ?_
      have E : Z = 1 := by exact hZ.symm.trans ((if_neg c1).trans ((if_neg c2).trans rfl))
      exact q_zret X hret rfl dX6_hasRoomFor_25 (by rw [E]) rfl
theorem Z_X6_hasRoomFor (ρ : Nat → Int32) (n : Nat) (key : Int32) : (S_X6_hasRoomFor ρ n key) = 0 ∨ (S_X6_hasRoomFor ρ n key) = 1 := by
  unfold S_X6_hasRoomFor
  (repeat' split) <;> first | exact Or.inl rfl | exact Or.inr rfl
def L_X6_insert_6 (fu : Nat) (ρ : Nat → Int32) (n : Nat) (i : Int32) (key : Int32) (v : Int32) (k : Int32) (ρ1 : Nat → Int32) : (Nat → Int32) := match fu with
  | 0 => (fun _ => 0)
  | fu + 1 => if k ≤ i then (let r2 : Nat → Int32 := S_put ρ1 1 2 n i key; let r3 : Nat → Int32 := S_put r2 2 2 n i v; va_up r3 0 ((r3 0) + 1)) else (let r5 : Nat → Int32 := S_put ρ1 1 2 n k (S_at ρ1 1 2 n (k - 1)); let r6 : Nat → Int32 := S_put r5 2 2 n k (S_at r5 2 2 n (k - 1)); L_X6_insert_6 fu ρ n i key v (k + (-1)) r6)
def S_X6_insert (ρ : Nat → Int32) (n : Nat) (i : Int32) (key : Int32) (v : Int32) : (Nat → Int32) := L_X6_insert_6 (((ρ 0).toInt - i.toInt).toNat + 1) ρ n i key v (ρ 0) ρ
set_option maxRecDepth 100000 in
set_option maxHeartbeats 4000000 in
theorem w_X6_insert_6 {G : Geo} {p : Program} {l : Launch} {e : Env} {s : State} {m : MethodId} {args : Array Value} {below : List Frame} {meth : Method} {c : Code} {h : Hp} {g : Nat} {ρ : Nat → Int32} {n : Nat} {i : Int32} {key : Int32} {v : Int32} (X : CX G (AA G) p s m meth c RX6 cX6_insert 5) (hret : meth.sig.returnType = none) (hT_g : gT G g = 3) (hr_g : h g = ρ) (hn_g : ar_n (gT G g) g = n) (Z : (Nat → Int32)) : ∀ (fu : Nat) (k : Int32) (ρ1 : Nat → Int32), (k.toInt - i.toInt).toNat < fu → L_X6_insert_6 fu ρ n i key v k ρ1 = Z → VV G (AA G) p l e { frames := 1, cells := 0, slots := 0, locals := 22 } s m args below meth c 0 0 (MQ below (QC G (va_up h g Z) none) args s 0 0 (AA G)) 5 (va_up h g ρ1) 6 [(0, .ref (gA G g 0)), (1, .int i), (2, .int key), (3, .int v), (4, .int k)] [] := by
  intro fu
  induction fu with
  | zero =>
    intro k ρ1  hm
    exact absurd hm (Nat.not_lt_zero _)
  | succ fu ih =>
    intro k ρ1  hm hZ
    have hG := X.2.2.2.2.2.1
    refine q_iload X 4 dX6_insert_6 rfl ?_
    refine q_iload_n X 1 dX6_insert_8 rfl ?_
    refine q_icmp_le (tgt := 58) X dX6_insert_9 (by decide) (fun c1 => ?_) (fun c1 => ?_)
    · skip
      refine q_aload_n X 0 dX6_insert_58 rfl ?_
      refine q_get (fk := 0) (v := .ref (gA G g 1)) X cf_X6 (ac_3_0 hT_g) (by decide) fl_X6_19 rfl rfl dX6_insert_59 rfl ?_
      refine q_iload_n X 1 dX6_insert_62 rfl ?_
      refine q_iload_n X 2 dX6_insert_63 rfl ?_
      obtain ⟨r2, e_r2⟩ : ∃ z : Nat → Int32, z = S_put ρ1 1 2 n i key := ⟨_, rfl⟩
      refine q_callSN (h1 := _) (rest := []) (As := [.ref (gA G g 1), .int i, .int key]) X (c_X9_put (l := l) hG (n := n) (row := ρ1) i key (ac_3_1 hT_g) (va_up_self _ _ _) hn_g) mf_X9_put ms_X9_put ln_X6_47 rfl ⟨by decide, by decide⟩ ⟨Nat.le_refl _, Nat.le_refl _⟩ rfl (Nat.le_of_ble_eq_true rfl) dX6_insert_64 (st2 := []) rfl ?_
      refine q_eq (h2 := va_up h g r2) (by rw [e_r2]; exact va_up_up _ _ _ _) rfl ?_
      refine q_aload_n X 0 dX6_insert_67 rfl ?_
      refine q_get (fk := 1) (v := .ref (gA G g 2)) X cf_X6 (ac_3_0 hT_g) (by decide) fl_X6_23 rfl rfl dX6_insert_68 rfl ?_
      refine q_iload_n X 1 dX6_insert_71 rfl ?_
      refine q_iload_n X 3 dX6_insert_72 rfl ?_
      obtain ⟨r3, e_r3⟩ : ∃ z : Nat → Int32, z = S_put r2 2 2 n i v := ⟨_, rfl⟩
      refine q_callSN (h1 := _) (rest := []) (As := [.ref (gA G g 2), .int i, .int v]) X (c_X9_put (l := l) hG (n := n) (row := r2) i v (ac_3_2 hT_g) (va_up_self _ _ _) hn_g) mf_X9_put ms_X9_put ln_X6_47 rfl ⟨by decide, by decide⟩ ⟨Nat.le_refl _, Nat.le_refl _⟩ rfl (Nat.le_of_ble_eq_true rfl) dX6_insert_73 (st2 := []) rfl ?_
      refine q_eq (h2 := va_up h g r3) (by rw [e_r3]; exact va_up_up _ _ _ _) rfl ?_
      refine q_aload_n X 0 dX6_insert_76 rfl ?_
      refine q_dup X dX6_insert_77 rfl ?_
      refine q_geti (fk := 2) (x := r3 0) X cf_X6 (ac_3_0 hT_g) (by decide) fl_X6_7 rfl rfl dX6_insert_78 (va_up_self _ _ _) rfl ?_
      refine q_iconst (v := 1) X dX6_insert_81 (by decide) ?_
      refine q_iadd X dX6_insert_82 ?_
      obtain ⟨r4, e_r4⟩ : ∃ z : Nat → Int32, z = va_up r3 0 ((r3 0) + 1) := ⟨_, rfl⟩
      refine q_put (fk := 2) (h2 := va_up h g r4) X cf_X6 (ac_3_0 hT_g) (by decide) fl_X6_7 rfl rfl (by rw [hT_g]; rfl) rfl rfl rfl dX6_insert_83 (va_up_self _ _ _) (by rw [e_r4, va_up_up]) ?_
      have E : Z = r4 := by subst e_r4; subst e_r3; subst e_r2; exact hZ.symm.trans ((if_pos c1).trans rfl)
      exact q_vret X hret dX6_insert_86 rfl (by rw [E])
    · skip
      refine q_aload_n X 0 dX6_insert_12 rfl ?_
      refine q_get (fk := 0) (v := .ref (gA G g 1)) X cf_X6 (ac_3_0 hT_g) (by decide) fl_X6_19 rfl rfl dX6_insert_13 rfl ?_
      refine q_iload X 4 dX6_insert_16 rfl ?_
      refine q_aload_n X 0 dX6_insert_18 rfl ?_
      refine q_get (fk := 0) (v := .ref (gA G g 1)) X cf_X6 (ac_3_0 hT_g) (by decide) fl_X6_19 rfl rfl dX6_insert_19 rfl ?_
      refine q_iload X 4 dX6_insert_22 rfl ?_
      refine q_iconst (v := 1) X dX6_insert_24 (by decide) ?_
      refine q_isub X dX6_insert_25 ?_
      refine q_callSN (h1 := _) (rest := [.int k, .ref (gA G g 1)]) (As := [.ref (gA G g 1), .int (k - 1)]) X (c_X9_at (l := l) hG (n := n) (row := ρ1) (k - 1) (ac_3_1 hT_g) (va_up_self _ _ _) hn_g) mf_X9_at ms_X9_at ln_X6_35 rfl ⟨by decide, by decide⟩ ⟨Nat.le_refl _, Nat.le_refl _⟩ rfl (Nat.le_of_ble_eq_true rfl) dX6_insert_26 (st2 := [.int (S_at ρ1 1 2 n (k - 1)), .int k, .ref (gA G g 1)]) rfl ?_
      obtain ⟨r5, e_r5⟩ : ∃ z : Nat → Int32, z = S_put ρ1 1 2 n k (S_at ρ1 1 2 n (k - 1)) := ⟨_, rfl⟩
      refine q_callSN (h1 := _) (rest := []) (As := [.ref (gA G g 1), .int k, .int (S_at ρ1 1 2 n (k - 1))]) X (c_X9_put (l := l) hG (n := n) (row := ρ1) k (S_at ρ1 1 2 n (k - 1)) (ac_3_1 hT_g) (va_up_self _ _ _) hn_g) mf_X9_put ms_X9_put ln_X6_47 rfl ⟨by decide, by decide⟩ ⟨Nat.le_refl _, Nat.le_refl _⟩ rfl (Nat.le_of_ble_eq_true rfl) dX6_insert_29 (st2 := []) rfl ?_
      refine q_eq (h2 := va_up h g r5) (by rw [e_r5]; exact va_up_up _ _ _ _) rfl ?_
      refine q_aload_n X 0 dX6_insert_32 rfl ?_
      refine q_get (fk := 1) (v := .ref (gA G g 2)) X cf_X6 (ac_3_0 hT_g) (by decide) fl_X6_23 rfl rfl dX6_insert_33 rfl ?_
      refine q_iload X 4 dX6_insert_36 rfl ?_
      refine q_aload_n X 0 dX6_insert_38 rfl ?_
      refine q_get (fk := 1) (v := .ref (gA G g 2)) X cf_X6 (ac_3_0 hT_g) (by decide) fl_X6_23 rfl rfl dX6_insert_39 rfl ?_
      refine q_iload X 4 dX6_insert_42 rfl ?_
      refine q_iconst (v := 1) X dX6_insert_44 (by decide) ?_
      refine q_isub X dX6_insert_45 ?_
      refine q_callSN (h1 := _) (rest := [.int k, .ref (gA G g 2)]) (As := [.ref (gA G g 2), .int (k - 1)]) X (c_X9_at (l := l) hG (n := n) (row := r5) (k - 1) (ac_3_2 hT_g) (va_up_self _ _ _) hn_g) mf_X9_at ms_X9_at ln_X6_35 rfl ⟨by decide, by decide⟩ ⟨Nat.le_refl _, Nat.le_refl _⟩ rfl (Nat.le_of_ble_eq_true rfl) dX6_insert_46 (st2 := [.int (S_at r5 2 2 n (k - 1)), .int k, .ref (gA G g 2)]) rfl ?_
      obtain ⟨r6, e_r6⟩ : ∃ z : Nat → Int32, z = S_put r5 2 2 n k (S_at r5 2 2 n (k - 1)) := ⟨_, rfl⟩
      refine q_callSN (h1 := _) (rest := []) (As := [.ref (gA G g 2), .int k, .int (S_at r5 2 2 n (k - 1))]) X (c_X9_put (l := l) hG (n := n) (row := r5) k (S_at r5 2 2 n (k - 1)) (ac_3_2 hT_g) (va_up_self _ _ _) hn_g) mf_X9_put ms_X9_put ln_X6_47 rfl ⟨by decide, by decide⟩ ⟨Nat.le_refl _, Nat.le_refl _⟩ rfl (Nat.le_of_ble_eq_true rfl) dX6_insert_49 (st2 := []) rfl ?_
      refine q_eq (h2 := va_up h g r6) (by rw [e_r6]; exact va_up_up _ _ _ _) rfl ?_
      refine q_iinc (v := k + (-1)) (lv' := [(4, .int (k + (-1))), (0, .ref (gA G g 0)), (1, .int i), (2, .int key), (3, .int v)]) X 4 dX6_insert_52 rfl rfl (by decide) rfl ?_
      refine q_goto (tgt := 6) X dX6_insert_55 (by decide) ?_
      refine q_sub (lv2 := [(0, .ref (gA G g 0)), (1, .int i), (2, .int key), (3, .int v), (4, .int (k + (-1)))]) [1, 2, 3, 4, 0] rfl ?_
      have E : L_X6_insert_6 fu ρ n i key v (k + (-1)) r6 = Z := Eq.trans (Eq.symm (by subst e_r6; subst e_r5; exact (if_neg c1).trans rfl)) hZ
      exact ih (k + (-1)) r6  (by subst e_r6; subst e_r5; exact ms_dn c1 hm) E
set_option maxRecDepth 100000 in
set_option maxHeartbeats 4000000 in
theorem c_X6_insert {G : Geo} {l : Launch} (hG : GOK G) {g : Nat} {h : Hp} {ρ : Nat → Int32} {n : Nat} (i : Int32) (key : Int32) (v : Int32) (hT_g : gT G g = 3) (hr_g : h g = ρ) (hn_g : ar_n (gT G g) g = n) : CM G l yX6_insert cX6_insert 5 none 1 22 [.ref (gA G g 0), .int i, .int key, .int v] h (va_up h g (S_X6_insert ρ n i key v)) none := by
  obtain ⟨Z, hZ⟩ : ∃ Z, S_X6_insert ρ n i key v = Z := ⟨_, rfl⟩
  rw [hZ]
  refine q_enter hG mf_X6_insert (Nat.le_of_ble_eq_true rfl) ?_
  intro p e s m below meth c X hret
  refine q_lv (lv2 := [(0, .ref (gA G g 0)), (1, .int i), (2, .int key), (3, .int v)]) rfl ?_
  refine q_aload_n X 0 dX6_insert_0 rfl ?_
  refine q_geti (fk := 2) (x := ρ 0) X cf_X6 (ac_3_0 hT_g) (by decide) fl_X6_7 rfl rfl dX6_insert_1 (hr_g) rfl ?_
  refine q_istore (lv' := [(4, .int (ρ 0)), (0, .ref (gA G g 0)), (1, .int i), (2, .int key), (3, .int v)]) X dX6_insert_4 (by decide) rfl ?_
  refine q_sub (lv2 := [(0, .ref (gA G g 0)), (1, .int i), (2, .int key), (3, .int v), (4, .int (ρ 0))]) [1, 2, 3, 4, 0] rfl ?_
  refine q_eq (h2 := va_up h g ρ) (va_up_id2 (hr_g)).symm rfl ?_
  have E : L_X6_insert_6 (((ρ 0).toInt - i.toInt).toNat + 1) ρ n i key v (ρ 0) ρ = Z := Eq.trans (Eq.symm (by exact rfl)) hZ
  exact w_X6_insert_6 X hret hT_g hr_g hn_g Z (((ρ 0).toInt - i.toInt).toNat + 1) (ρ 0) ρ  (by exact Nat.lt_succ_self _) E
def S_X6_set (ρ : Nat → Int32) (n : Nat) (key : Int32) (v : Int32) : (Nat → Int32) := if (S_X6_indexBelow ρ n key) < 0 then (if (Int32.ofNat n) ≤ (ρ 0) then (ρ) else (S_X6_insert ρ n ((S_X6_indexBelow ρ n key) + 1) key v)) else (if (S_at ρ 1 2 n (S_X6_indexBelow ρ n key)) = key then (S_put ρ 2 2 n (S_X6_indexBelow ρ n key) v) else (if (Int32.ofNat n) ≤ (ρ 0) then (ρ) else (S_X6_insert ρ n ((S_X6_indexBelow ρ n key) + 1) key v)))
set_option maxRecDepth 100000 in
set_option maxHeartbeats 4000000 in
theorem c_X6_set {G : Geo} {l : Launch} (hG : GOK G) {g : Nat} {h : Hp} {ρ : Nat → Int32} {n : Nat} (key : Int32) (v : Int32) (hT_g : gT G g = 3) (hr_g : h g = ρ) (hn_g : ar_n (gT G g) g = n) : CM G l yX6_set cX6_set 4 none 2 46 [.ref (gA G g 0), .int key, .int v] h (va_up h g (S_X6_set ρ n key v)) none := by
  obtain ⟨Z, hZ⟩ : ∃ Z, S_X6_set ρ n key v = Z := ⟨_, rfl⟩
  rw [hZ]
  refine q_enter hG mf_X6_set (Nat.le_of_ble_eq_true rfl) ?_
  intro p e s m below meth c X hret
  refine q_lv (lv2 := [(0, .ref (gA G g 0)), (1, .int key), (2, .int v)]) rfl ?_
  refine q_aload_n X 0 dX6_set_0 rfl ?_
  refine q_iload_n X 1 dX6_set_1 rfl ?_
  refine q_callV (h1 := _) (rest := []) (As := [.int key]) X (c_X6_indexBelow (l := l) hG (ρ := ρ) (n := n) key hT_g (hr_g) hn_g) mf_X6_indexBelow mv_X6_indexBelow cf_X6 rfl (ac_3_0 hT_g) lk_X6_39 rfl ⟨by decide, by decide⟩ ⟨Nat.le_refl _, Nat.le_refl _⟩ rfl (Nat.le_of_ble_eq_true rfl) dX6_set_2 (st2 := [.int (S_X6_indexBelow ρ n key)]) rfl ?_
  refine q_istore_n (lv' := [(3, .int (S_X6_indexBelow ρ n key)), (0, .ref (gA G g 0)), (1, .int key), (2, .int v)]) X dX6_set_5 (by decide) rfl ?_
  refine q_iload_n X 0 dX6_set_6 rfl ?_
  suffices hJ9 : ∀ (m2 : Nat → Int32), m2 = (if (S_X6_indexBelow ρ n key) < 0 then (if (Int32.ofNat n) ≤ (ρ 0) then (ρ) else (S_X6_insert ρ n ((S_X6_indexBelow ρ n key) + 1) key v)) else (if (S_at ρ 1 2 n (S_X6_indexBelow ρ n key)) = key then (S_put ρ 2 2 n (S_X6_indexBelow ρ n key) v) else (if (Int32.ofNat n) ≤ (ρ 0) then (ρ) else (S_X6_insert ρ n ((S_X6_indexBelow ρ n key) + 1) key v)))) → VV G (AA G) p l e { frames := 2, cells := 0, slots := 0, locals := 46 } s m ([.ref (gA G g 0), .int key, .int v] : List Value).toArray below meth c 0 0 (MQ below (QC G (va_up h g Z) none) ([.ref (gA G g 0), .int key, .int v] : List Value).toArray s 0 0 (AA G)) 4 (va_up h g m2) 55 [(3, .int (S_X6_indexBelow ρ n key)), (0, .ref (gA G g 0)), (1, .int key), (2, .int v)] [] by
    refine q_if_lt (tgt := 34) X dX6_set_7 (by decide) (fun c1 => ?_) (fun c1 => ?_)
    · skip
      refine q_aload_n X 1 dX6_set_34 rfl ?_
      refine q_geti (fk := 2) (x := ρ 0) X cf_X6 (ac_3_0 hT_g) (by decide) fl_X6_7 rfl rfl dX6_set_35 (hr_g) rfl ?_
      refine q_aload_n X 1 dX6_set_38 rfl ?_
      refine q_get (fk := 0) (v := .ref (gA G g 1)) X cf_X6 (ac_3_0 hT_g) (by decide) fl_X6_19 rfl rfl dX6_set_39 rfl ?_
      refine q_alen (x := Int32.ofNat n) X (ac_3_1 hT_g) dX6_set_42 (by rw [hn_g]) ?_
      refine q_icmp_ge (tgt := 55) X dX6_set_43 (by decide) (fun c3 => ?_) (fun c3 => ?_)
      · skip
        refine q_sub (lv2 := [(3, .int (S_X6_indexBelow ρ n key)), (0, .ref (gA G g 0)), (1, .int key), (2, .int v)]) [0, 1, 2, 3] rfl ?_
        refine q_eq (h2 := va_up h g ρ) (va_up_id2 (hr_g)).symm rfl ?_
        exact hJ9 ρ (by exact ((if_pos c1).trans ((if_pos c3).trans rfl)).symm)
      · skip
        refine q_aload_n X 1 dX6_set_46 rfl ?_
        refine q_iload_n X 0 dX6_set_47 rfl ?_
        refine q_iconst (v := 1) X dX6_set_48 (by decide) ?_
        refine q_iadd X dX6_set_49 ?_
        refine q_iload_n X 2 dX6_set_50 rfl ?_
        refine q_iload_n X 3 dX6_set_51 rfl ?_
        obtain ⟨r4, e_r4⟩ : ∃ z : Nat → Int32, z = S_X6_insert ρ n ((S_X6_indexBelow ρ n key) + 1) key v := ⟨_, rfl⟩
        refine q_callV (h1 := _) (rest := []) (As := [.int ((S_X6_indexBelow ρ n key) + 1), .int key, .int v]) X (c_X6_insert (l := l) hG (ρ := ρ) (n := n) ((S_X6_indexBelow ρ n key) + 1) key v hT_g (hr_g) hn_g) mf_X6_insert mv_X6_insert cf_X6 rfl (ac_3_0 hT_g) lk_X6_51 rfl ⟨by decide, by decide⟩ ⟨Nat.le_refl _, Nat.le_refl _⟩ rfl (Nat.le_of_ble_eq_true rfl) dX6_set_52 (st2 := []) rfl ?_
        refine q_eq (h2 := va_up h g r4) (by rw [e_r4]) rfl ?_
        refine q_sub (lv2 := [(3, .int (S_X6_indexBelow ρ n key)), (0, .ref (gA G g 0)), (1, .int key), (2, .int v)]) [0, 1, 2, 3] rfl ?_
        exact hJ9 r4 (by subst e_r4; exact ((if_pos c1).trans ((if_neg c3).trans rfl)).symm)
    · skip
      refine q_aload_n X 1 dX6_set_10 rfl ?_
      refine q_get (fk := 0) (v := .ref (gA G g 1)) X cf_X6 (ac_3_0 hT_g) (by decide) fl_X6_19 rfl rfl dX6_set_11 rfl ?_
      refine q_iload_n X 0 dX6_set_14 rfl ?_
      refine q_callSN (h1 := _) (rest := []) (As := [.ref (gA G g 1), .int (S_X6_indexBelow ρ n key)]) X (c_X9_at (l := l) hG (n := n) (row := ρ) (S_X6_indexBelow ρ n key) (ac_3_1 hT_g) (hr_g) hn_g) mf_X9_at ms_X9_at ln_X6_35 rfl ⟨by decide, by decide⟩ ⟨Nat.le_refl _, Nat.le_refl _⟩ rfl (Nat.le_of_ble_eq_true rfl) dX6_set_15 (st2 := [.int (S_at ρ 1 2 n (S_X6_indexBelow ρ n key))]) rfl ?_
      refine q_iload_n X 2 dX6_set_18 rfl ?_
      refine q_icmp_ne (tgt := 34) X dX6_set_19 (by decide) (fun c5 => ?_) (fun c5 => ?_)
      · skip
        refine q_aload_n X 1 dX6_set_34 rfl ?_
        refine q_geti (fk := 2) (x := ρ 0) X cf_X6 (ac_3_0 hT_g) (by decide) fl_X6_7 rfl rfl dX6_set_35 (hr_g) rfl ?_
        refine q_aload_n X 1 dX6_set_38 rfl ?_
        refine q_get (fk := 0) (v := .ref (gA G g 1)) X cf_X6 (ac_3_0 hT_g) (by decide) fl_X6_19 rfl rfl dX6_set_39 rfl ?_
        refine q_alen (x := Int32.ofNat n) X (ac_3_1 hT_g) dX6_set_42 (by rw [hn_g]) ?_
        refine q_icmp_ge (tgt := 55) X dX6_set_43 (by decide) (fun c6 => ?_) (fun c6 => ?_)
        · skip
          refine q_sub (lv2 := [(3, .int (S_X6_indexBelow ρ n key)), (0, .ref (gA G g 0)), (1, .int key), (2, .int v)]) [0, 1, 2, 3] rfl ?_
          refine q_eq (h2 := va_up h g ρ) (va_up_id2 (hr_g)).symm rfl ?_
          exact hJ9 ρ (by exact ((if_neg c1).trans ((if_neg c5).trans ((if_pos c6).trans rfl))).symm)
        · skip
          refine q_aload_n X 1 dX6_set_46 rfl ?_
          refine q_iload_n X 0 dX6_set_47 rfl ?_
          refine q_iconst (v := 1) X dX6_set_48 (by decide) ?_
          refine q_iadd X dX6_set_49 ?_
          refine q_iload_n X 2 dX6_set_50 rfl ?_
          refine q_iload_n X 3 dX6_set_51 rfl ?_
          obtain ⟨r7, e_r7⟩ : ∃ z : Nat → Int32, z = S_X6_insert ρ n ((S_X6_indexBelow ρ n key) + 1) key v := ⟨_, rfl⟩
          refine q_callV (h1 := _) (rest := []) (As := [.int ((S_X6_indexBelow ρ n key) + 1), .int key, .int v]) X (c_X6_insert (l := l) hG (ρ := ρ) (n := n) ((S_X6_indexBelow ρ n key) + 1) key v hT_g (hr_g) hn_g) mf_X6_insert mv_X6_insert cf_X6 rfl (ac_3_0 hT_g) lk_X6_51 rfl ⟨by decide, by decide⟩ ⟨Nat.le_refl _, Nat.le_refl _⟩ rfl (Nat.le_of_ble_eq_true rfl) dX6_set_52 (st2 := []) rfl ?_
          refine q_eq (h2 := va_up h g r7) (by rw [e_r7]) rfl ?_
          refine q_sub (lv2 := [(3, .int (S_X6_indexBelow ρ n key)), (0, .ref (gA G g 0)), (1, .int key), (2, .int v)]) [0, 1, 2, 3] rfl ?_
          exact hJ9 r7 (by subst e_r7; exact ((if_neg c1).trans ((if_neg c5).trans ((if_neg c6).trans rfl))).symm)
      · skip
        refine q_aload_n X 1 dX6_set_22 rfl ?_
        refine q_get (fk := 1) (v := .ref (gA G g 2)) X cf_X6 (ac_3_0 hT_g) (by decide) fl_X6_23 rfl rfl dX6_set_23 rfl ?_
        refine q_iload_n X 0 dX6_set_26 rfl ?_
        refine q_iload_n X 3 dX6_set_27 rfl ?_
        obtain ⟨r8, e_r8⟩ : ∃ z : Nat → Int32, z = S_put ρ 2 2 n (S_X6_indexBelow ρ n key) v := ⟨_, rfl⟩
        refine q_callSN (h1 := _) (rest := []) (As := [.ref (gA G g 2), .int (S_X6_indexBelow ρ n key), .int v]) X (c_X9_put (l := l) hG (n := n) (row := ρ) (S_X6_indexBelow ρ n key) v (ac_3_2 hT_g) (hr_g) hn_g) mf_X9_put ms_X9_put ln_X6_47 rfl ⟨by decide, by decide⟩ ⟨Nat.le_refl _, Nat.le_refl _⟩ rfl (Nat.le_of_ble_eq_true rfl) dX6_set_28 (st2 := []) rfl ?_
        refine q_eq (h2 := va_up h g r8) (by rw [e_r8]) rfl ?_
        refine q_goto (tgt := 55) X dX6_set_31 (by decide) ?_
        refine q_sub (lv2 := [(3, .int (S_X6_indexBelow ρ n key)), (0, .ref (gA G g 0)), (1, .int key), (2, .int v)]) [0, 1, 2, 3] rfl ?_
        exact hJ9 r8 (by subst e_r8; exact ((if_neg c1).trans ((if_pos c5).trans rfl)).symm)
  intro m2 e_m2
  have E : Z = m2 := by subst e_m2; exact hZ.symm.trans (rfl)
  exact q_vret X hret dX6_set_55 rfl (by rw [E])
def L_X6_remove_15 (fu : Nat) (ρ : Nat → Int32) (n : Nat) (key : Int32) (k : Int32) (ρ1 : Nat → Int32) : (Nat → Int32) := match fu with
  | 0 => (fun _ => 0)
  | fu + 1 => if ((ρ1 0) - 1) ≤ k then (va_up ρ1 0 ((ρ1 0) - 1)) else (let r4 : Nat → Int32 := S_put ρ1 1 2 n k (S_at ρ1 1 2 n (k + 1)); let r5 : Nat → Int32 := S_put r4 2 2 n k (S_at r4 2 2 n (k + 1)); L_X6_remove_15 fu ρ n key (k + 1) r5)
def S_X6_remove (ρ : Nat → Int32) (n : Nat) (key : Int32) : (Nat → Int32) := if (S_X6_has ρ n key) = 0 then (ρ) else (L_X6_remove_15 ((((ρ 0) - 1).toInt - (S_X6_indexBelow ρ n key).toInt).toNat + 1) ρ n key (S_X6_indexBelow ρ n key) ρ)
set_option maxRecDepth 100000 in
set_option maxHeartbeats 4000000 in
theorem w_X6_remove_15 {G : Geo} {p : Program} {l : Launch} {e : Env} {s : State} {m : MethodId} {args : Array Value} {below : List Frame} {meth : Method} {c : Code} {h : Hp} {g : Nat} {ρ : Nat → Int32} {n : Nat} {key : Int32} (X : CX G (AA G) p s m meth c RX6 cX6_remove 3) (hret : meth.sig.returnType = none) (hT_g : gT G g = 3) (hr_g : h g = ρ) (hn_g : ar_n (gT G g) g = n) (Z : (Nat → Int32)) : ∀ (fu : Nat) (k : Int32) (ρ1 : Nat → Int32), (ρ1 0 = ρ 0) → (((ρ 0) - 1).toInt - k.toInt).toNat < fu → L_X6_remove_15 fu ρ n key k ρ1 = Z → VV G (AA G) p l e { frames := 3, cells := 0, slots := 0, locals := 66 } s m args below meth c 0 0 (MQ below (QC G (va_up h g Z) none) args s 0 0 (AA G)) 3 (va_up h g ρ1) 15 [(0, .ref (gA G g 0)), (1, .int key), (2, .int k)] [] := by
  intro fu
  induction fu with
  | zero =>
    intro k ρ1 hs hm
    exact absurd hm (Nat.not_lt_zero _)
  | succ fu ih =>
    intro k ρ1 hs hm hZ
    have hG := X.2.2.2.2.2.1
    refine q_iload_n X 2 dX6_remove_15 rfl ?_
    refine q_aload_n X 0 dX6_remove_16 rfl ?_
    refine q_geti (fk := 2) (x := ρ1 0) X cf_X6 (ac_3_0 hT_g) (by decide) fl_X6_7 rfl rfl dX6_remove_17 (va_up_self _ _ _) rfl ?_
    refine q_iconst (v := 1) X dX6_remove_20 (by decide) ?_
    refine q_isub X dX6_remove_21 ?_
    refine q_icmp_ge (tgt := 67) X dX6_remove_22 (by decide) (fun c2 => ?_) (fun c2 => ?_)
    · skip
      refine q_aload_n X 0 dX6_remove_67 rfl ?_
      refine q_dup X dX6_remove_68 rfl ?_
      refine q_geti (fk := 2) (x := ρ1 0) X cf_X6 (ac_3_0 hT_g) (by decide) fl_X6_7 rfl rfl dX6_remove_69 (va_up_self _ _ _) rfl ?_
      refine q_iconst (v := 1) X dX6_remove_72 (by decide) ?_
      refine q_isub X dX6_remove_73 ?_
      obtain ⟨r3, e_r3⟩ : ∃ z : Nat → Int32, z = va_up ρ1 0 ((ρ1 0) - 1) := ⟨_, rfl⟩
      refine q_put (fk := 2) (h2 := va_up h g r3) X cf_X6 (ac_3_0 hT_g) (by decide) fl_X6_7 rfl rfl (by rw [hT_g]; rfl) rfl rfl rfl dX6_remove_74 (va_up_self _ _ _) (by rw [e_r3, va_up_up]) ?_
      have E : Z = r3 := by subst e_r3; exact hZ.symm.trans ((if_pos c2).trans rfl)
      exact q_vret X hret dX6_remove_77 rfl (by rw [E])
    · skip
      refine q_aload_n X 0 dX6_remove_25 rfl ?_
      refine q_get (fk := 0) (v := .ref (gA G g 1)) X cf_X6 (ac_3_0 hT_g) (by decide) fl_X6_19 rfl rfl dX6_remove_26 rfl ?_
      refine q_iload_n X 2 dX6_remove_29 rfl ?_
      refine q_aload_n X 0 dX6_remove_30 rfl ?_
      refine q_get (fk := 0) (v := .ref (gA G g 1)) X cf_X6 (ac_3_0 hT_g) (by decide) fl_X6_19 rfl rfl dX6_remove_31 rfl ?_
      refine q_iload_n X 2 dX6_remove_34 rfl ?_
      refine q_iconst (v := 1) X dX6_remove_35 (by decide) ?_
      refine q_iadd X dX6_remove_36 ?_
      refine q_callSN (h1 := _) (rest := [.int k, .ref (gA G g 1)]) (As := [.ref (gA G g 1), .int (k + 1)]) X (c_X9_at (l := l) hG (n := n) (row := ρ1) (k + 1) (ac_3_1 hT_g) (va_up_self _ _ _) hn_g) mf_X9_at ms_X9_at ln_X6_35 rfl ⟨by decide, by decide⟩ ⟨Nat.le_refl _, Nat.le_refl _⟩ rfl (Nat.le_of_ble_eq_true rfl) dX6_remove_37 (st2 := [.int (S_at ρ1 1 2 n (k + 1)), .int k, .ref (gA G g 1)]) rfl ?_
      obtain ⟨r4, e_r4⟩ : ∃ z : Nat → Int32, z = S_put ρ1 1 2 n k (S_at ρ1 1 2 n (k + 1)) := ⟨_, rfl⟩
      refine q_callSN (h1 := _) (rest := []) (As := [.ref (gA G g 1), .int k, .int (S_at ρ1 1 2 n (k + 1))]) X (c_X9_put (l := l) hG (n := n) (row := ρ1) k (S_at ρ1 1 2 n (k + 1)) (ac_3_1 hT_g) (va_up_self _ _ _) hn_g) mf_X9_put ms_X9_put ln_X6_47 rfl ⟨by decide, by decide⟩ ⟨Nat.le_refl _, Nat.le_refl _⟩ rfl (Nat.le_of_ble_eq_true rfl) dX6_remove_40 (st2 := []) rfl ?_
      refine q_eq (h2 := va_up h g r4) (by rw [e_r4]; exact va_up_up _ _ _ _) rfl ?_
      refine q_aload_n X 0 dX6_remove_43 rfl ?_
      refine q_get (fk := 1) (v := .ref (gA G g 2)) X cf_X6 (ac_3_0 hT_g) (by decide) fl_X6_23 rfl rfl dX6_remove_44 rfl ?_
      refine q_iload_n X 2 dX6_remove_47 rfl ?_
      refine q_aload_n X 0 dX6_remove_48 rfl ?_
      refine q_get (fk := 1) (v := .ref (gA G g 2)) X cf_X6 (ac_3_0 hT_g) (by decide) fl_X6_23 rfl rfl dX6_remove_49 rfl ?_
      refine q_iload_n X 2 dX6_remove_52 rfl ?_
      refine q_iconst (v := 1) X dX6_remove_53 (by decide) ?_
      refine q_iadd X dX6_remove_54 ?_
      refine q_callSN (h1 := _) (rest := [.int k, .ref (gA G g 2)]) (As := [.ref (gA G g 2), .int (k + 1)]) X (c_X9_at (l := l) hG (n := n) (row := r4) (k + 1) (ac_3_2 hT_g) (va_up_self _ _ _) hn_g) mf_X9_at ms_X9_at ln_X6_35 rfl ⟨by decide, by decide⟩ ⟨Nat.le_refl _, Nat.le_refl _⟩ rfl (Nat.le_of_ble_eq_true rfl) dX6_remove_55 (st2 := [.int (S_at r4 2 2 n (k + 1)), .int k, .ref (gA G g 2)]) rfl ?_
      obtain ⟨r5, e_r5⟩ : ∃ z : Nat → Int32, z = S_put r4 2 2 n k (S_at r4 2 2 n (k + 1)) := ⟨_, rfl⟩
      refine q_callSN (h1 := _) (rest := []) (As := [.ref (gA G g 2), .int k, .int (S_at r4 2 2 n (k + 1))]) X (c_X9_put (l := l) hG (n := n) (row := r4) k (S_at r4 2 2 n (k + 1)) (ac_3_2 hT_g) (va_up_self _ _ _) hn_g) mf_X9_put ms_X9_put ln_X6_47 rfl ⟨by decide, by decide⟩ ⟨Nat.le_refl _, Nat.le_refl _⟩ rfl (Nat.le_of_ble_eq_true rfl) dX6_remove_58 (st2 := []) rfl ?_
      refine q_eq (h2 := va_up h g r5) (by rw [e_r5]; exact va_up_up _ _ _ _) rfl ?_
      refine q_iinc (v := k + 1) (lv' := [(2, .int (k + 1)), (0, .ref (gA G g 0)), (1, .int key)]) X 2 dX6_remove_61 rfl rfl (by decide) rfl ?_
      refine q_goto (tgt := 15) X dX6_remove_64 (by decide) ?_
      refine q_sub (lv2 := [(0, .ref (gA G g 0)), (1, .int key), (2, .int (k + 1))]) [1, 2, 0] rfl ?_
      have E : L_X6_remove_15 fu ρ n key (k + 1) r5 = Z := Eq.trans (Eq.symm (by subst e_r5; subst e_r4; exact (if_neg c2).trans rfl)) hZ
      exact ih (k + 1) r5 (by subst e_r5; subst e_r4; rw [S_put_lo (by decide), S_put_lo (by decide)]; exact hs) (by subst e_r5; subst e_r4; exact ms_up (by rw [← hs]; exact c2) hm) E
set_option maxRecDepth 100000 in
set_option maxHeartbeats 4000000 in
theorem c_X6_remove {G : Geo} {l : Launch} (hG : GOK G) {g : Nat} {h : Hp} {ρ : Nat → Int32} {n : Nat} (key : Int32) (hT_g : gT G g = 3) (hr_g : h g = ρ) (hn_g : ar_n (gT G g) g = n) : CM G l yX6_remove cX6_remove 3 none 3 66 [.ref (gA G g 0), .int key] h (va_up h g (S_X6_remove ρ n key)) none := by
  obtain ⟨Z, hZ⟩ : ∃ Z, S_X6_remove ρ n key = Z := ⟨_, rfl⟩
  rw [hZ]
  refine q_enter hG mf_X6_remove (Nat.le_of_ble_eq_true rfl) ?_
  intro p e s m below meth c X hret
  refine q_lv (lv2 := [(0, .ref (gA G g 0)), (1, .int key)]) rfl ?_
  refine q_aload_n X 0 dX6_remove_0 rfl ?_
  refine q_iload_n X 1 dX6_remove_1 rfl ?_
  refine q_callV (h1 := _) (rest := []) (As := [.int key]) X (c_X6_has (l := l) hG (ρ := ρ) (n := n) key hT_g (hr_g) hn_g) mf_X6_has mv_X6_has cf_X6 rfl (ac_3_0 hT_g) lk_X6_43 rfl ⟨by decide, by decide⟩ ⟨Nat.le_refl _, Nat.le_refl _⟩ rfl (Nat.le_of_ble_eq_true rfl) dX6_remove_2 (st2 := [.int (S_X6_has ρ n key)]) rfl ?_
  refine q_if_ne (tgt := 9) X dX6_remove_5 (by decide) (fun c1 => ?_) (fun c1 => ?_)
  · skip
    refine q_aload_n X 0 dX6_remove_9 rfl ?_
    refine q_iload_n X 1 dX6_remove_10 rfl ?_
    refine q_callV (h1 := _) (rest := []) (As := [.int key]) X (c_X6_indexBelow (l := l) hG (ρ := ρ) (n := n) key hT_g (hr_g) hn_g) mf_X6_indexBelow mv_X6_indexBelow cf_X6 rfl (ac_3_0 hT_g) lk_X6_39 rfl ⟨by decide, by decide⟩ ⟨Nat.le_refl _, Nat.le_refl _⟩ rfl (Nat.le_of_ble_eq_true rfl) dX6_remove_11 (st2 := [.int (S_X6_indexBelow ρ n key)]) rfl ?_
    refine q_istore_n (lv' := [(2, .int (S_X6_indexBelow ρ n key)), (0, .ref (gA G g 0)), (1, .int key)]) X dX6_remove_14 (by decide) rfl ?_
    refine q_sub (lv2 := [(0, .ref (gA G g 0)), (1, .int key), (2, .int (S_X6_indexBelow ρ n key))]) [1, 2, 0] rfl ?_
    refine q_eq (h2 := va_up h g ρ) (va_up_id2 (hr_g)).symm rfl ?_
    have E : L_X6_remove_15 ((((ρ 0) - 1).toInt - (S_X6_indexBelow ρ n key).toInt).toNat + 1) ρ n key (S_X6_indexBelow ρ n key) ρ = Z := Eq.trans (Eq.symm (by exact (if_neg c1).trans rfl)) hZ
    exact w_X6_remove_15 X hret hT_g hr_g hn_g Z ((((ρ 0) - 1).toInt - (S_X6_indexBelow ρ n key).toInt).toNat + 1) (S_X6_indexBelow ρ n key) ρ (by rfl) (by exact Nat.lt_succ_self _) E
  · skip
    have E : Z = ρ := by exact hZ.symm.trans ((if_pos c1).trans rfl)
    exact q_vret X hret dX6_remove_8 rfl (by rw [E]; exact va_up_id2 (hr_g))
def S_X6_valueBelow (ρ : Nat → Int32) (n : Nat) (key : Int32) : Int32 := if 0 ≤ (S_X6_indexBelow ρ n key) then (S_at ρ 2 2 n (S_X6_indexBelow ρ n key)) else (0)
set_option maxRecDepth 100000 in
set_option maxHeartbeats 4000000 in
theorem c_X6_valueBelow {G : Geo} {l : Launch} (hG : GOK G) {g : Nat} {h : Hp} {ρ : Nat → Int32} {n : Nat} (key : Int32) (hT_g : gT G g = 3) (hr_g : h g = ρ) (hn_g : ar_n (gT G g) g = n) : CM G l yX6_valueBelow cX6_valueBelow 3 (some .int) 2 44 [.ref (gA G g 0), .int key] h h (some (.int (S_X6_valueBelow ρ n key))) := by
  obtain ⟨Z, hZ⟩ : ∃ Z, S_X6_valueBelow ρ n key = Z := ⟨_, rfl⟩
  rw [hZ]
  refine q_enter hG mf_X6_valueBelow (Nat.le_of_ble_eq_true rfl) ?_
  intro p e s m below meth c X hret
  refine q_lv (lv2 := [(0, .ref (gA G g 0)), (1, .int key)]) rfl ?_
  refine q_aload_n X 0 dX6_valueBelow_0 rfl ?_
  refine q_iload_n X 1 dX6_valueBelow_1 rfl ?_
  refine q_callV (h1 := _) (rest := []) (As := [.int key]) X (c_X6_indexBelow (l := l) hG (ρ := ρ) (n := n) key hT_g (hr_g) hn_g) mf_X6_indexBelow mv_X6_indexBelow cf_X6 rfl (ac_3_0 hT_g) lk_X6_39 rfl ⟨by decide, by decide⟩ ⟨Nat.le_refl _, Nat.le_refl _⟩ rfl (Nat.le_of_ble_eq_true rfl) dX6_valueBelow_2 (st2 := [.int (S_X6_indexBelow ρ n key)]) rfl ?_
  refine q_istore_n (lv' := [(2, .int (S_X6_indexBelow ρ n key)), (0, .ref (gA G g 0)), (1, .int key)]) X dX6_valueBelow_5 (by decide) rfl ?_
  refine q_iload_n X 0 dX6_valueBelow_6 rfl ?_
  suffices hJ3 : ∀ (m2 : Int32), m2 = (if 0 ≤ (S_X6_indexBelow ρ n key) then (S_at ρ 2 2 n (S_X6_indexBelow ρ n key)) else (0)) → VV G (AA G) p l e { frames := 2, cells := 0, slots := 0, locals := 44 } s m ([.ref (gA G g 0), .int key] : List Value).toArray below meth c 0 0 (MQ below (QC G h (some (.int Z))) ([.ref (gA G g 0), .int key] : List Value).toArray s 0 0 (AA G)) 3 h 22 [(2, .int (S_X6_indexBelow ρ n key)), (0, .ref (gA G g 0)), (1, .int key)] [.int m2] by
    refine q_if_ge (tgt := 14) X dX6_valueBelow_7 (by decide) (fun c1 => ?_) (fun c1 => ?_)
    · skip
      refine q_aload_n X 1 dX6_valueBelow_14 rfl ?_
      refine q_get (fk := 1) (v := .ref (gA G g 2)) X cf_X6 (ac_3_0 hT_g) (by decide) fl_X6_23 rfl rfl dX6_valueBelow_15 rfl ?_
      refine q_iload_n X 0 dX6_valueBelow_18 rfl ?_
      refine q_callSN (h1 := _) (rest := []) (As := [.ref (gA G g 2), .int (S_X6_indexBelow ρ n key)]) X (c_X9_at (l := l) hG (n := n) (row := ρ) (S_X6_indexBelow ρ n key) (ac_3_2 hT_g) (hr_g) hn_g) mf_X9_at ms_X9_at ln_X6_35 rfl ⟨by decide, by decide⟩ ⟨Nat.le_refl _, Nat.le_refl _⟩ rfl (Nat.le_of_ble_eq_true rfl) dX6_valueBelow_19 (st2 := [.int (S_at ρ 2 2 n (S_X6_indexBelow ρ n key))]) rfl ?_
      refine q_sub (lv2 := [(2, .int (S_X6_indexBelow ρ n key)), (0, .ref (gA G g 0)), (1, .int key)]) [0, 1, 2] rfl ?_
      exact hJ3 (S_at ρ 2 2 n (S_X6_indexBelow ρ n key)) (by exact ((if_pos c1).trans rfl).symm)
    · skip
      refine q_iconst (v := 0) X dX6_valueBelow_10 (by decide) ?_
      refine q_goto (tgt := 22) X dX6_valueBelow_11 (by decide) ?_
      refine q_sub (lv2 := [(2, .int (S_X6_indexBelow ρ n key)), (0, .ref (gA G g 0)), (1, .int key)]) [0, 1, 2] rfl ?_
      exact hJ3 0 (by exact ((if_neg c1).trans rfl).symm)
  intro m2 e_m2
  have E : Z = m2 := by subst e_m2; exact hZ.symm.trans (rfl)
  exact q_iret X hret dX6_valueBelow_22 (by rw [E]) rfl
def S_X6_valueOnLine (ρ : Nat → Int32) (n : Nat) (key : Int32) : Int32 := if 0 ≤ (S_X6_indexBelow ρ n key) then (if (S_X6_indexBelow ρ n key) < ((ρ 0) - 1) then ((S_at ρ 2 2 n (S_X6_indexBelow ρ n key)) + (Int64.toInt32 (S_X9_quotient (Int32.toInt64 (((S_at ρ 2 2 n ((S_X6_indexBelow ρ n key) + 1)) - (S_at ρ 2 2 n (S_X6_indexBelow ρ n key))) * (key - (S_at ρ 1 2 n (S_X6_indexBelow ρ n key))))) (Int32.toInt64 ((S_at ρ 1 2 n ((S_X6_indexBelow ρ n key) + 1)) - (S_at ρ 1 2 n (S_X6_indexBelow ρ n key))))))) else (S_at ρ 2 2 n (S_X6_indexBelow ρ n key))) else (S_at ρ 2 2 n 0)
set_option maxRecDepth 100000 in
set_option maxHeartbeats 4000000 in
theorem c_X6_valueOnLine {G : Geo} {l : Launch} (hG : GOK G) {g : Nat} {h : Hp} {ρ : Nat → Int32} {n : Nat} (key : Int32) (hT_g : gT G g = 3) (hr_g : h g = ρ) (hn_g : ar_n (gT G g) g = n) : CM G l yX6_valueOnLine cX6_valueOnLine 6 (some .int) 2 48 [.ref (gA G g 0), .int key] h h (some (.int (S_X6_valueOnLine ρ n key))) := by
  obtain ⟨Z, hZ⟩ : ∃ Z, S_X6_valueOnLine ρ n key = Z := ⟨_, rfl⟩
  rw [hZ]
  refine q_enter hG mf_X6_valueOnLine (Nat.le_of_ble_eq_true rfl) ?_
  intro p e s m below meth c X hret
  refine q_lv (lv2 := [(0, .ref (gA G g 0)), (1, .int key)]) rfl ?_
  refine q_aload_n X 0 dX6_valueOnLine_0 rfl ?_
  refine q_iload_n X 1 dX6_valueOnLine_1 rfl ?_
  refine q_callV (h1 := _) (rest := []) (As := [.int key]) X (c_X6_indexBelow (l := l) hG (ρ := ρ) (n := n) key hT_g (hr_g) hn_g) mf_X6_indexBelow mv_X6_indexBelow cf_X6 rfl (ac_3_0 hT_g) lk_X6_39 rfl ⟨by decide, by decide⟩ ⟨Nat.le_refl _, Nat.le_refl _⟩ rfl (Nat.le_of_ble_eq_true rfl) dX6_valueOnLine_2 (st2 := [.int (S_X6_indexBelow ρ n key)]) rfl ?_
  refine q_istore_n (lv' := [(2, .int (S_X6_indexBelow ρ n key)), (0, .ref (gA G g 0)), (1, .int key)]) X dX6_valueOnLine_5 (by decide) rfl ?_
  refine q_iload_n X 0 dX6_valueOnLine_6 rfl ?_
  refine q_if_ge (tgt := 19) X dX6_valueOnLine_7 (by decide) (fun c1 => ?_) (fun c1 => ?_)
  · skip
    refine q_aload_n X 1 dX6_valueOnLine_19 rfl ?_
    refine q_get (fk := 1) (v := .ref (gA G g 2)) X cf_X6 (ac_3_0 hT_g) (by decide) fl_X6_23 rfl rfl dX6_valueOnLine_20 rfl ?_
    refine q_iload_n X 0 dX6_valueOnLine_23 rfl ?_
    refine q_callSN (h1 := _) (rest := []) (As := [.ref (gA G g 2), .int (S_X6_indexBelow ρ n key)]) X (c_X9_at (l := l) hG (n := n) (row := ρ) (S_X6_indexBelow ρ n key) (ac_3_2 hT_g) (hr_g) hn_g) mf_X9_at ms_X9_at ln_X6_35 rfl ⟨by decide, by decide⟩ ⟨Nat.le_refl _, Nat.le_refl _⟩ rfl (Nat.le_of_ble_eq_true rfl) dX6_valueOnLine_24 (st2 := [.int (S_at ρ 2 2 n (S_X6_indexBelow ρ n key))]) rfl ?_
    refine q_istore_n (lv' := [(3, .int (S_at ρ 2 2 n (S_X6_indexBelow ρ n key))), (2, .int (S_X6_indexBelow ρ n key)), (0, .ref (gA G g 0)), (1, .int key)]) X dX6_valueOnLine_27 (by decide) rfl ?_
    refine q_iload_n X 1 dX6_valueOnLine_28 rfl ?_
    refine q_aload_n X 2 dX6_valueOnLine_29 rfl ?_
    refine q_geti (fk := 2) (x := ρ 0) X cf_X6 (ac_3_0 hT_g) (by decide) fl_X6_7 rfl rfl dX6_valueOnLine_30 (hr_g) rfl ?_
    refine q_iconst (v := 1) X dX6_valueOnLine_33 (by decide) ?_
    refine q_isub X dX6_valueOnLine_34 ?_
    refine q_icmp_lt (tgt := 40) X dX6_valueOnLine_35 (by decide) (fun c2 => ?_) (fun c2 => ?_)
    · skip
      refine q_aload_n X 2 dX6_valueOnLine_40 rfl ?_
      refine q_get (fk := 1) (v := .ref (gA G g 2)) X cf_X6 (ac_3_0 hT_g) (by decide) fl_X6_23 rfl rfl dX6_valueOnLine_41 rfl ?_
      refine q_iload_n X 1 dX6_valueOnLine_44 rfl ?_
      refine q_iconst (v := 1) X dX6_valueOnLine_45 (by decide) ?_
      refine q_iadd X dX6_valueOnLine_46 ?_
      refine q_callSN (h1 := _) (rest := []) (As := [.ref (gA G g 2), .int ((S_X6_indexBelow ρ n key) + 1)]) X (c_X9_at (l := l) hG (n := n) (row := ρ) ((S_X6_indexBelow ρ n key) + 1) (ac_3_2 hT_g) (hr_g) hn_g) mf_X9_at ms_X9_at ln_X6_35 rfl ⟨by decide, by decide⟩ ⟨Nat.le_refl _, Nat.le_refl _⟩ rfl (Nat.le_of_ble_eq_true rfl) dX6_valueOnLine_47 (st2 := [.int (S_at ρ 2 2 n ((S_X6_indexBelow ρ n key) + 1))]) rfl ?_
      refine q_iload_n X 0 dX6_valueOnLine_50 rfl ?_
      refine q_isub X dX6_valueOnLine_51 ?_
      refine q_istore (lv' := [(4, .int ((S_at ρ 2 2 n ((S_X6_indexBelow ρ n key) + 1)) - (S_at ρ 2 2 n (S_X6_indexBelow ρ n key)))), (3, .int (S_at ρ 2 2 n (S_X6_indexBelow ρ n key))), (2, .int (S_X6_indexBelow ρ n key)), (0, .ref (gA G g 0)), (1, .int key)]) X dX6_valueOnLine_52 (by decide) rfl ?_
      refine q_aload_n X 3 dX6_valueOnLine_54 rfl ?_
      refine q_get (fk := 0) (v := .ref (gA G g 1)) X cf_X6 (ac_3_0 hT_g) (by decide) fl_X6_19 rfl rfl dX6_valueOnLine_55 rfl ?_
      refine q_iload_n X 2 dX6_valueOnLine_58 rfl ?_
      refine q_iconst (v := 1) X dX6_valueOnLine_59 (by decide) ?_
      refine q_iadd X dX6_valueOnLine_60 ?_
      refine q_callSN (h1 := _) (rest := []) (As := [.ref (gA G g 1), .int ((S_X6_indexBelow ρ n key) + 1)]) X (c_X9_at (l := l) hG (n := n) (row := ρ) ((S_X6_indexBelow ρ n key) + 1) (ac_3_1 hT_g) (hr_g) hn_g) mf_X9_at ms_X9_at ln_X6_35 rfl ⟨by decide, by decide⟩ ⟨Nat.le_refl _, Nat.le_refl _⟩ rfl (Nat.le_of_ble_eq_true rfl) dX6_valueOnLine_61 (st2 := [.int (S_at ρ 1 2 n ((S_X6_indexBelow ρ n key) + 1))]) rfl ?_
      refine q_aload_n X 3 dX6_valueOnLine_64 rfl ?_
      refine q_get (fk := 0) (v := .ref (gA G g 1)) X cf_X6 (ac_3_0 hT_g) (by decide) fl_X6_19 rfl rfl dX6_valueOnLine_65 rfl ?_
      refine q_iload_n X 2 dX6_valueOnLine_68 rfl ?_
      refine q_callSN (h1 := _) (rest := [.int (S_at ρ 1 2 n ((S_X6_indexBelow ρ n key) + 1))]) (As := [.ref (gA G g 1), .int (S_X6_indexBelow ρ n key)]) X (c_X9_at (l := l) hG (n := n) (row := ρ) (S_X6_indexBelow ρ n key) (ac_3_1 hT_g) (hr_g) hn_g) mf_X9_at ms_X9_at ln_X6_35 rfl ⟨by decide, by decide⟩ ⟨Nat.le_refl _, Nat.le_refl _⟩ rfl (Nat.le_of_ble_eq_true rfl) dX6_valueOnLine_69 (st2 := [.int (S_at ρ 1 2 n (S_X6_indexBelow ρ n key)), .int (S_at ρ 1 2 n ((S_X6_indexBelow ρ n key) + 1))]) rfl ?_
      refine q_isub X dX6_valueOnLine_72 ?_
      refine q_istore (lv' := [(5, .int ((S_at ρ 1 2 n ((S_X6_indexBelow ρ n key) + 1)) - (S_at ρ 1 2 n (S_X6_indexBelow ρ n key)))), (4, .int ((S_at ρ 2 2 n ((S_X6_indexBelow ρ n key) + 1)) - (S_at ρ 2 2 n (S_X6_indexBelow ρ n key)))), (3, .int (S_at ρ 2 2 n (S_X6_indexBelow ρ n key))), (2, .int (S_X6_indexBelow ρ n key)), (0, .ref (gA G g 0)), (1, .int key)]) X dX6_valueOnLine_73 (by decide) rfl ?_
      refine q_iload_n X 2 dX6_valueOnLine_75 rfl ?_
      refine q_iload X 1 dX6_valueOnLine_76 rfl ?_
      refine q_iload_n X 5 dX6_valueOnLine_78 rfl ?_
      refine q_aload_n X 4 dX6_valueOnLine_79 rfl ?_
      refine q_get (fk := 0) (v := .ref (gA G g 1)) X cf_X6 (ac_3_0 hT_g) (by decide) fl_X6_19 rfl rfl dX6_valueOnLine_80 rfl ?_
      refine q_iload_n X 3 dX6_valueOnLine_83 rfl ?_
      refine q_callSN (h1 := _) (rest := [.int key, .int ((S_at ρ 2 2 n ((S_X6_indexBelow ρ n key) + 1)) - (S_at ρ 2 2 n (S_X6_indexBelow ρ n key))), .int (S_at ρ 2 2 n (S_X6_indexBelow ρ n key))]) (As := [.ref (gA G g 1), .int (S_X6_indexBelow ρ n key)]) X (c_X9_at (l := l) hG (n := n) (row := ρ) (S_X6_indexBelow ρ n key) (ac_3_1 hT_g) (hr_g) hn_g) mf_X9_at ms_X9_at ln_X6_35 rfl ⟨by decide, by decide⟩ ⟨Nat.le_refl _, Nat.le_refl _⟩ rfl (Nat.le_of_ble_eq_true rfl) dX6_valueOnLine_84 (st2 := [.int (S_at ρ 1 2 n (S_X6_indexBelow ρ n key)), .int key, .int ((S_at ρ 2 2 n ((S_X6_indexBelow ρ n key) + 1)) - (S_at ρ 2 2 n (S_X6_indexBelow ρ n key))), .int (S_at ρ 2 2 n (S_X6_indexBelow ρ n key))]) rfl ?_
      refine q_isub X dX6_valueOnLine_87 ?_
      refine q_imul X dX6_valueOnLine_88 ?_
      refine q_i2l X dX6_valueOnLine_89 ?_
      refine q_iload X 0 dX6_valueOnLine_90 rfl ?_
      refine q_i2l X dX6_valueOnLine_92 ?_
      refine q_callSN (h1 := _) (rest := [.int (S_at ρ 2 2 n (S_X6_indexBelow ρ n key))]) (As := [.long (Int32.toInt64 (((S_at ρ 2 2 n ((S_X6_indexBelow ρ n key) + 1)) - (S_at ρ 2 2 n (S_X6_indexBelow ρ n key))) * (key - (S_at ρ 1 2 n (S_X6_indexBelow ρ n key))))), .long (Int32.toInt64 ((S_at ρ 1 2 n ((S_X6_indexBelow ρ n key) + 1)) - (S_at ρ 1 2 n (S_X6_indexBelow ρ n key))))]) X (c_X9_quotient (l := l) hG   (Int32.toInt64 (((S_at ρ 2 2 n ((S_X6_indexBelow ρ n key) + 1)) - (S_at ρ 2 2 n (S_X6_indexBelow ρ n key))) * (key - (S_at ρ 1 2 n (S_X6_indexBelow ρ n key))))) (Int32.toInt64 ((S_at ρ 1 2 n ((S_X6_indexBelow ρ n key) + 1)) - (S_at ρ 1 2 n (S_X6_indexBelow ρ n key)))) ) mf_X9_quotient ms_X9_quotient ln_X6_55 rfl ⟨by decide, by decide⟩ ⟨Nat.le_refl _, Nat.le_refl _⟩ rfl (Nat.le_of_ble_eq_true rfl) dX6_valueOnLine_93 (st2 := [.long (S_X9_quotient (Int32.toInt64 (((S_at ρ 2 2 n ((S_X6_indexBelow ρ n key) + 1)) - (S_at ρ 2 2 n (S_X6_indexBelow ρ n key))) * (key - (S_at ρ 1 2 n (S_X6_indexBelow ρ n key))))) (Int32.toInt64 ((S_at ρ 1 2 n ((S_X6_indexBelow ρ n key) + 1)) - (S_at ρ 1 2 n (S_X6_indexBelow ρ n key))))), .int (S_at ρ 2 2 n (S_X6_indexBelow ρ n key))]) rfl ?_
      refine q_l2i X dX6_valueOnLine_96 ?_
      refine q_iadd X dX6_valueOnLine_97 ?_
      have E : Z = (S_at ρ 2 2 n (S_X6_indexBelow ρ n key)) + (Int64.toInt32 (S_X9_quotient (Int32.toInt64 (((S_at ρ 2 2 n ((S_X6_indexBelow ρ n key) + 1)) - (S_at ρ 2 2 n (S_X6_indexBelow ρ n key))) * (key - (S_at ρ 1 2 n (S_X6_indexBelow ρ n key))))) (Int32.toInt64 ((S_at ρ 1 2 n ((S_X6_indexBelow ρ n key) + 1)) - (S_at ρ 1 2 n (S_X6_indexBelow ρ n key)))))) := by exact hZ.symm.trans ((if_pos c1).trans ((if_pos c2).trans rfl))
      exact q_iret X hret dX6_valueOnLine_98 (by rw [E]) rfl
    · skip
      refine q_iload_n X 0 dX6_valueOnLine_38 rfl ?_
      have E : Z = S_at ρ 2 2 n (S_X6_indexBelow ρ n key) := by exact hZ.symm.trans ((if_pos c1).trans ((if_neg c2).trans rfl))
      exact q_iret X hret dX6_valueOnLine_39 (by rw [E]) rfl
  · skip
    refine q_aload_n X 1 dX6_valueOnLine_10 rfl ?_
    refine q_get (fk := 1) (v := .ref (gA G g 2)) X cf_X6 (ac_3_0 hT_g) (by decide) fl_X6_23 rfl rfl dX6_valueOnLine_11 rfl ?_
    refine q_iconst (v := 0) X dX6_valueOnLine_14 (by decide) ?_
    refine q_callSN (h1 := _) (rest := []) (As := [.ref (gA G g 2), .int 0]) X (c_X9_at (l := l) hG (n := n) (row := ρ) 0 (ac_3_2 hT_g) (hr_g) hn_g) mf_X9_at ms_X9_at ln_X6_35 rfl ⟨by decide, by decide⟩ ⟨Nat.le_refl _, Nat.le_refl _⟩ rfl (Nat.le_of_ble_eq_true rfl) dX6_valueOnLine_15 (st2 := [.int (S_at ρ 2 2 n 0)]) rfl ?_
    have E : Z = S_at ρ 2 2 n 0 := by exact hZ.symm.trans ((if_neg c1).trans rfl)
    exact q_iret X hret dX6_valueOnLine_18 (by rw [E]) rfl
def S_X6_copyFrom (ρ : Nat → Int32) (ρ2 : Nat → Int32) (n : Nat) : (Nat → Int32) := let r1 : Nat → Int32 := S_copy ρ2 ρ 1 2 n; let r2 : Nat → Int32 := S_copy ρ2 r1 2 2 n; va_up r2 0 (S_J9_min_7cf53 (ρ2 0) (Int32.ofNat n))
set_option maxRecDepth 100000 in
set_option maxHeartbeats 4000000 in
theorem c_X6_copyFrom {G : Geo} {l : Launch} (hG : GOK G) {g g2 : Nat} {h : Hp} {ρ : Nat → Int32} {ρ2 : Nat → Int32} {n : Nat} (hT_g : gT G g = 3) (hT_g2 : gT G g2 = 3) (hr_g : h g = ρ) (hr_g2 : h g2 = ρ2) (hn_g : ar_n (gT G g) g = n) (hn_g2 : ar_n (gT G g2) g2 = n) (hne : g2 ≠ g) : CM G l yX6_copyFrom cX6_copyFrom 2 none 2 81 [.ref (gA G g 0), .ref (gA G g2 0)] h (va_up h g (S_X6_copyFrom ρ ρ2 n)) none := by
  obtain ⟨Z, hZ⟩ : ∃ Z, S_X6_copyFrom ρ ρ2 n = Z := ⟨_, rfl⟩
  rw [hZ]
  refine q_enter hG mf_X6_copyFrom (Nat.le_of_ble_eq_true rfl) ?_
  intro p e s m below meth c X hret
  refine q_lv (lv2 := [(0, .ref (gA G g 0)), (1, .ref (gA G g2 0))]) rfl ?_
  refine q_aload_n X 1 dX6_copyFrom_0 rfl ?_
  refine q_get (fk := 0) (v := .ref (gA G g2 1)) X cf_X6 (ac_3_0 hT_g2) (by decide) fl_X6_19 rfl rfl dX6_copyFrom_1 rfl ?_
  refine q_aload_n X 0 dX6_copyFrom_4 rfl ?_
  refine q_get (fk := 0) (v := .ref (gA G g 1)) X cf_X6 (ac_3_0 hT_g) (by decide) fl_X6_19 rfl rfl dX6_copyFrom_5 rfl ?_
  obtain ⟨r1, e_r1⟩ : ∃ z : Nat → Int32, z = S_copy ρ2 ρ 1 2 n := ⟨_, rfl⟩
  refine q_callSN (h1 := _) (rest := []) (As := [.ref (gA G g2 1), .ref (gA G g 1)]) X (c_X9_copyRow (l := l) hG (n := n) (frm := ρ2) (row := ρ) (ac_3_1 hT_g2) (ac_3_1 hT_g) (hr_g2) (hr_g) hn_g2 hn_g) mf_X9_copyRow ms_X9_copyRow ln_X6_26 rfl ⟨by decide, by decide⟩ ⟨Nat.le_refl _, Nat.le_refl _⟩ rfl (Nat.le_of_ble_eq_true rfl) dX6_copyFrom_8 (st2 := []) rfl ?_
  refine q_eq (h2 := va_up h g r1) (by rw [e_r1]) rfl ?_
  refine q_aload_n X 1 dX6_copyFrom_11 rfl ?_
  refine q_get (fk := 1) (v := .ref (gA G g2 2)) X cf_X6 (ac_3_0 hT_g2) (by decide) fl_X6_23 rfl rfl dX6_copyFrom_12 rfl ?_
  refine q_aload_n X 0 dX6_copyFrom_15 rfl ?_
  refine q_get (fk := 1) (v := .ref (gA G g 2)) X cf_X6 (ac_3_0 hT_g) (by decide) fl_X6_23 rfl rfl dX6_copyFrom_16 rfl ?_
  obtain ⟨r2, e_r2⟩ : ∃ z : Nat → Int32, z = S_copy ρ2 r1 2 2 n := ⟨_, rfl⟩
  refine q_callSN (h1 := _) (rest := []) (As := [.ref (gA G g2 2), .ref (gA G g 2)]) X (c_X9_copyRow (l := l) hG (n := n) (frm := ρ2) (row := r1) (ac_3_2 hT_g2) (ac_3_2 hT_g) ((va_up_ne _ _ hne).trans (hr_g2)) (va_up_self _ _ _) hn_g2 hn_g) mf_X9_copyRow ms_X9_copyRow ln_X6_26 rfl ⟨by decide, by decide⟩ ⟨Nat.le_refl _, Nat.le_refl _⟩ rfl (Nat.le_of_ble_eq_true rfl) dX6_copyFrom_19 (st2 := []) rfl ?_
  refine q_eq (h2 := va_up h g r2) (by rw [e_r2]; exact va_up_up _ _ _ _) rfl ?_
  refine q_aload_n X 0 dX6_copyFrom_22 rfl ?_
  refine q_aload_n X 1 dX6_copyFrom_23 rfl ?_
  refine q_geti (fk := 2) (x := ρ2 0) X cf_X6 (ac_3_0 hT_g2) (by decide) fl_X6_7 rfl rfl dX6_copyFrom_24 ((va_up_ne _ _ hne).trans (hr_g2)) rfl ?_
  refine q_aload_n X 0 dX6_copyFrom_27 rfl ?_
  refine q_get (fk := 0) (v := .ref (gA G g 1)) X cf_X6 (ac_3_0 hT_g) (by decide) fl_X6_19 rfl rfl dX6_copyFrom_28 rfl ?_
  refine q_alen (x := Int32.ofNat n) X (ac_3_1 hT_g) dX6_copyFrom_31 (by rw [hn_g]) ?_
  refine q_callS (h1 := _) (rest := [.ref (gA G g 0)]) (As := [.int (ρ2 0), .int (Int32.ofNat n)]) X (c_J9_min_7cf53 (l := l) hG   (ρ2 0) (Int32.ofNat n) ) mf_J9_min_7cf53 ms_J9_min_7cf53 lk_X6_32 rfl ⟨by decide, by decide⟩ ⟨Nat.le_refl _, Nat.le_refl _⟩ rfl (Nat.le_of_ble_eq_true rfl) dX6_copyFrom_32 (st2 := [.int (S_J9_min_7cf53 (ρ2 0) (Int32.ofNat n)), .ref (gA G g 0)]) rfl ?_
  obtain ⟨r3, e_r3⟩ : ∃ z : Nat → Int32, z = va_up r2 0 (S_J9_min_7cf53 (ρ2 0) (Int32.ofNat n)) := ⟨_, rfl⟩
  refine q_put (fk := 2) (h2 := va_up h g r3) X cf_X6 (ac_3_0 hT_g) (by decide) fl_X6_7 rfl rfl (by rw [hT_g]; rfl) rfl rfl rfl dX6_copyFrom_35 (va_up_self _ _ _) (by rw [e_r3, va_up_up]) ?_
  have E : Z = r3 := by subst e_r3; subst e_r2; subst e_r1; exact hZ.symm.trans (rfl)
  exact q_vret X hret dX6_copyFrom_38 rfl (by rw [E])
