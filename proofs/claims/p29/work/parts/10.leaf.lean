def S_J9_abs_0f7a4 (a : Int32) : Int32 := if 0 ≤ a then (a) else (-a)
set_option maxRecDepth 100000 in
set_option maxHeartbeats 4000000 in
theorem c_J9_abs_0f7a4 {G : Geo} {l : Launch} (hG : GOK G) {h : Hp} (a : Int32)  : CM G l yJ9_abs_0f7a4 cJ9_abs_0f7a4 1 (some .int) 0 0 [.int a] h h (some (.int (S_J9_abs_0f7a4 a))) := by
  obtain ⟨Z, hZ⟩ : ∃ Z, S_J9_abs_0f7a4 a = Z := ⟨_, rfl⟩
  rw [hZ]
  refine q_enter hG mf_J9_abs_0f7a4 (Nat.le_of_ble_eq_true rfl) ?_
  intro p e s m below meth c X hret
  refine q_lv (lv2 := [(0, .int a)]) rfl ?_
  refine q_iload_n X 0 dJ9_abs_0f7a4_0 rfl ?_
  suffices hJ3 : ∀ (m2 : Int32), m2 = (if 0 ≤ a then (a) else (-a)) → VV G (AA G) p l e { frames := 0, cells := 0, slots := 0, locals := 0 } s m ([.int a] : List Value).toArray below meth c 0 0 (MQ below (QC G h (some (.int Z))) ([.int a] : List Value).toArray s 0 0 (AA G)) 1 h 10 [(0, .int a)] [.int m2] by
    refine q_if_ge (tgt := 9) X dJ9_abs_0f7a4_1 (by decide) (fun c1 => ?_) (fun c1 => ?_)
    · skip
      refine q_iload_n X 0 dJ9_abs_0f7a4_9 rfl ?_
      refine q_sub (lv2 := [(0, .int a)]) [0] rfl ?_
      exact hJ3 a (by exact ((if_pos c1).trans rfl).symm)
    · skip
      refine q_iload_n X 0 dJ9_abs_0f7a4_4 rfl ?_
      refine q_ineg X dJ9_abs_0f7a4_5 ?_
      refine q_goto (tgt := 10) X dJ9_abs_0f7a4_6 (by decide) ?_
      refine q_sub (lv2 := [(0, .int a)]) [0] rfl ?_
      exact hJ3 (-a) (by exact ((if_neg c1).trans rfl).symm)
  intro m2 e_m2
  have E : Z = m2 := by subst e_m2; exact hZ.symm.trans (rfl)
  exact q_iret X hret dJ9_abs_0f7a4_10 (by rw [E]) rfl
def S_J9_max_7cf53 (a : Int32) (b : Int32) : Int32 := if a < b then (b) else (a)
set_option maxRecDepth 100000 in
set_option maxHeartbeats 4000000 in
theorem c_J9_max_7cf53 {G : Geo} {l : Launch} (hG : GOK G) {h : Hp} (a : Int32) (b : Int32)  : CM G l yJ9_max_7cf53 cJ9_max_7cf53 2 (some .int) 0 0 [.int a, .int b] h h (some (.int (S_J9_max_7cf53 a b))) := by
  obtain ⟨Z, hZ⟩ : ∃ Z, S_J9_max_7cf53 a b = Z := ⟨_, rfl⟩
  rw [hZ]
  refine q_enter hG mf_J9_max_7cf53 (Nat.le_of_ble_eq_true rfl) ?_
  intro p e s m below meth c X hret
  refine q_lv (lv2 := [(0, .int a), (1, .int b)]) rfl ?_
  refine q_iload_n X 0 dJ9_max_7cf53_0 rfl ?_
  refine q_iload_n X 1 dJ9_max_7cf53_1 rfl ?_
  suffices hJ3 : ∀ (m2 : Int32), m2 = (if a < b then (b) else (a)) → VV G (AA G) p l e { frames := 0, cells := 0, slots := 0, locals := 0 } s m ([.int a, .int b] : List Value).toArray below meth c 0 0 (MQ below (QC G h (some (.int Z))) ([.int a, .int b] : List Value).toArray s 0 0 (AA G)) 2 h 10 [(0, .int a), (1, .int b)] [.int m2] by
    refine q_icmp_lt (tgt := 9) X dJ9_max_7cf53_2 (by decide) (fun c1 => ?_) (fun c1 => ?_)
    · skip
      refine q_iload_n X 1 dJ9_max_7cf53_9 rfl ?_
      refine q_sub (lv2 := [(0, .int a), (1, .int b)]) [0, 1] rfl ?_
      exact hJ3 b (by exact ((if_pos c1).trans rfl).symm)
    · skip
      refine q_iload_n X 0 dJ9_max_7cf53_5 rfl ?_
      refine q_goto (tgt := 10) X dJ9_max_7cf53_6 (by decide) ?_
      refine q_sub (lv2 := [(0, .int a), (1, .int b)]) [0, 1] rfl ?_
      exact hJ3 a (by exact ((if_neg c1).trans rfl).symm)
  intro m2 e_m2
  have E : Z = m2 := by subst e_m2; exact hZ.symm.trans (rfl)
  exact q_iret X hret dJ9_max_7cf53_10 (by rw [E]) rfl
def S_J9_min_7cf53 (a : Int32) (b : Int32) : Int32 := if b < a then (b) else (a)
set_option maxRecDepth 100000 in
set_option maxHeartbeats 4000000 in
theorem c_J9_min_7cf53 {G : Geo} {l : Launch} (hG : GOK G) {h : Hp} (a : Int32) (b : Int32)  : CM G l yJ9_min_7cf53 cJ9_min_7cf53 2 (some .int) 0 0 [.int a, .int b] h h (some (.int (S_J9_min_7cf53 a b))) := by
  obtain ⟨Z, hZ⟩ : ∃ Z, S_J9_min_7cf53 a b = Z := ⟨_, rfl⟩
  rw [hZ]
  refine q_enter hG mf_J9_min_7cf53 (Nat.le_of_ble_eq_true rfl) ?_
  intro p e s m below meth c X hret
  refine q_lv (lv2 := [(0, .int a), (1, .int b)]) rfl ?_
  refine q_iload_n X 0 dJ9_min_7cf53_0 rfl ?_
  refine q_iload_n X 1 dJ9_min_7cf53_1 rfl ?_
  suffices hJ3 : ∀ (m2 : Int32), m2 = (if b < a then (b) else (a)) → VV G (AA G) p l e { frames := 0, cells := 0, slots := 0, locals := 0 } s m ([.int a, .int b] : List Value).toArray below meth c 0 0 (MQ below (QC G h (some (.int Z))) ([.int a, .int b] : List Value).toArray s 0 0 (AA G)) 2 h 10 [(0, .int a), (1, .int b)] [.int m2] by
    refine q_icmp_gt (tgt := 9) X dJ9_min_7cf53_2 (by decide) (fun c1 => ?_) (fun c1 => ?_)
    · skip
      refine q_iload_n X 1 dJ9_min_7cf53_9 rfl ?_
      refine q_sub (lv2 := [(0, .int a), (1, .int b)]) [0, 1] rfl ?_
      exact hJ3 b (by exact ((if_pos c1).trans rfl).symm)
    · skip
      refine q_iload_n X 0 dJ9_min_7cf53_5 rfl ?_
      refine q_goto (tgt := 10) X dJ9_min_7cf53_6 (by decide) ?_
      refine q_sub (lv2 := [(0, .int a), (1, .int b)]) [0, 1] rfl ?_
      exact hJ3 a (by exact ((if_neg c1).trans rfl).symm)
  intro m2 e_m2
  have E : Z = m2 := by subst e_m2; exact hZ.symm.trans (rfl)
  exact q_iret X hret dJ9_min_7cf53_10 (by rw [E]) rfl
def S_J9_floorDiv_7cf53 (a : Int32) (b : Int32) : Int32 := if 0 ≤ (a ^^^ b) then (a / b) else (if ((a / b) * b) = a then (a / b) else ((a / b) - 1))
set_option maxRecDepth 100000 in
set_option maxHeartbeats 4000000 in
theorem c_J9_floorDiv_7cf53 {G : Geo} {l : Launch} (hG : GOK G) {h : Hp} (a : Int32) (b : Int32) (hb : ¬ b = 0) : CM G l yJ9_floorDiv_7cf53 cJ9_floorDiv_7cf53 3 (some .int) 0 0 [.int a, .int b] h h (some (.int (S_J9_floorDiv_7cf53 a b))) := by
  obtain ⟨Z, hZ⟩ : ∃ Z, S_J9_floorDiv_7cf53 a b = Z := ⟨_, rfl⟩
  rw [hZ]
  refine q_enter hG mf_J9_floorDiv_7cf53 (Nat.le_of_ble_eq_true rfl) ?_
  intro p e s m below meth c X hret
  refine q_lv (lv2 := [(0, .int a), (1, .int b)]) rfl ?_
  refine q_iload_n X 0 dJ9_floorDiv_7cf53_0 rfl ?_
  refine q_iload_n X 1 dJ9_floorDiv_7cf53_1 rfl ?_
  refine q_idiv X dJ9_floorDiv_7cf53_2 hb ?_
  refine q_istore_n (lv' := [(2, .int (a / b)), (0, .int a), (1, .int b)]) X dJ9_floorDiv_7cf53_3 (by decide) rfl ?_
  refine q_iload_n X 1 dJ9_floorDiv_7cf53_4 rfl ?_
  refine q_iload_n X 2 dJ9_floorDiv_7cf53_5 rfl ?_
  refine q_ixor X dJ9_floorDiv_7cf53_6 ?_
  refine q_if_ge (tgt := 21) X dJ9_floorDiv_7cf53_7 (by decide) (fun c1 => ?_) (fun c1 => ?_)
  · skip
    refine q_iload_n X 0 dJ9_floorDiv_7cf53_21 rfl ?_
    have E : Z = a / b := by exact hZ.symm.trans ((if_pos c1).trans rfl)
    exact q_iret X hret dJ9_floorDiv_7cf53_22 (by rw [E]) rfl
  · skip
    refine q_iload_n X 0 dJ9_floorDiv_7cf53_10 rfl ?_
    refine q_iload_n X 2 dJ9_floorDiv_7cf53_11 rfl ?_
    refine q_imul X dJ9_floorDiv_7cf53_12 ?_
    refine q_iload_n X 1 dJ9_floorDiv_7cf53_13 rfl ?_
    refine q_icmp_eq (tgt := 21) X dJ9_floorDiv_7cf53_14 (by decide) (fun c2 => ?_) (fun c2 => ?_)
    · skip
      refine q_iload_n X 0 dJ9_floorDiv_7cf53_21 rfl ?_
      have E : Z = a / b := by exact hZ.symm.trans ((if_neg c1).trans ((if_pos c2).trans rfl))
      exact q_iret X hret dJ9_floorDiv_7cf53_22 (by rw [E]) rfl
    · skip
      refine q_iload_n X 0 dJ9_floorDiv_7cf53_17 rfl ?_
      refine q_iconst (v := 1) X dJ9_floorDiv_7cf53_18 (by decide) ?_
      refine q_isub X dJ9_floorDiv_7cf53_19 ?_
      have E : Z = (a / b) - 1 := by exact hZ.symm.trans ((if_neg c1).trans ((if_neg c2).trans rfl))
      exact q_iret X hret dJ9_floorDiv_7cf53_20 (by rw [E]) rfl
def S_J9_floorMod_7cf53 (a : Int32) (b : Int32) : Int32 := if 0 ≤ (a ^^^ b) then (a - a / b * b) else (if (a - a / b * b) = 0 then (a - a / b * b) else ((a - a / b * b) + b))
set_option maxRecDepth 100000 in
set_option maxHeartbeats 4000000 in
theorem c_J9_floorMod_7cf53 {G : Geo} {l : Launch} (hG : GOK G) {h : Hp} (a : Int32) (b : Int32) (hb : ¬ b = 0) : CM G l yJ9_floorMod_7cf53 cJ9_floorMod_7cf53 3 (some .int) 0 0 [.int a, .int b] h h (some (.int (S_J9_floorMod_7cf53 a b))) := by
  obtain ⟨Z, hZ⟩ : ∃ Z, S_J9_floorMod_7cf53 a b = Z := ⟨_, rfl⟩
  rw [hZ]
  refine q_enter hG mf_J9_floorMod_7cf53 (Nat.le_of_ble_eq_true rfl) ?_
  intro p e s m below meth c X hret
  refine q_lv (lv2 := [(0, .int a), (1, .int b)]) rfl ?_
  refine q_iload_n X 0 dJ9_floorMod_7cf53_0 rfl ?_
  refine q_iload_n X 1 dJ9_floorMod_7cf53_1 rfl ?_
  refine q_irem X dJ9_floorMod_7cf53_2 hb ?_
  refine q_istore_n (lv' := [(2, .int (a - a / b * b)), (0, .int a), (1, .int b)]) X dJ9_floorMod_7cf53_3 (by decide) rfl ?_
  refine q_iload_n X 1 dJ9_floorMod_7cf53_4 rfl ?_
  refine q_iload_n X 2 dJ9_floorMod_7cf53_5 rfl ?_
  refine q_ixor X dJ9_floorMod_7cf53_6 ?_
  refine q_if_ge (tgt := 18) X dJ9_floorMod_7cf53_7 (by decide) (fun c1 => ?_) (fun c1 => ?_)
  · skip
    refine q_iload_n X 0 dJ9_floorMod_7cf53_18 rfl ?_
    have E : Z = a - a / b * b := by exact hZ.symm.trans ((if_pos c1).trans rfl)
    exact q_iret X hret dJ9_floorMod_7cf53_19 (by rw [E]) rfl
  · skip
    refine q_iload_n X 0 dJ9_floorMod_7cf53_10 rfl ?_
    refine q_if_eq (tgt := 18) X dJ9_floorMod_7cf53_11 (by decide) (fun c2 => ?_) (fun c2 => ?_)
    · skip
      refine q_iload_n X 0 dJ9_floorMod_7cf53_18 rfl ?_
      have E : Z = a - a / b * b := by exact hZ.symm.trans ((if_neg c1).trans ((if_pos c2).trans rfl))
      exact q_iret X hret dJ9_floorMod_7cf53_19 (by rw [E]) rfl
    · skip
      refine q_iload_n X 0 dJ9_floorMod_7cf53_14 rfl ?_
      refine q_iload_n X 2 dJ9_floorMod_7cf53_15 rfl ?_
      refine q_iadd X dJ9_floorMod_7cf53_16 ?_
      have E : Z = (a - a / b * b) + b := by exact hZ.symm.trans ((if_neg c1).trans ((if_neg c2).trans rfl))
      exact q_iret X hret dJ9_floorMod_7cf53_17 (by rw [E]) rfl
def S_J9_floorDiv_f86c9 (a : Int64) (b : Int64) : Int64 := if 0 ≤ (lg_cmp (a ^^^ b) (0 : Int64)) then (a / b) else (if (lg_cmp ((a / b) * b) a) = 0 then (a / b) else ((a / b) - (1 : Int64)))
set_option maxRecDepth 100000 in
set_option maxHeartbeats 4000000 in
theorem c_J9_floorDiv_f86c9 {G : Geo} {l : Launch} (hG : GOK G) {h : Hp} (a : Int64) (b : Int64) (hb : ¬ b = 0) : CM G l yJ9_floorDiv_f86c9 cJ9_floorDiv_f86c9 6 (some .long) 0 0 [.long a, .long b] h h (some (.long (S_J9_floorDiv_f86c9 a b))) := by
  obtain ⟨Z, hZ⟩ : ∃ Z, S_J9_floorDiv_f86c9 a b = Z := ⟨_, rfl⟩
  rw [hZ]
  refine q_enter hG mf_J9_floorDiv_f86c9 (Nat.le_of_ble_eq_true rfl) ?_
  intro p e s m below meth c X hret
  refine q_lv (lv2 := [(0, .long a), (2, .long b)]) rfl ?_
  refine q_lload_n X 0 dJ9_floorDiv_f86c9_0 rfl ?_
  refine q_lload_n X 1 dJ9_floorDiv_f86c9_1 rfl ?_
  refine q_ldiv X dJ9_floorDiv_f86c9_2 hb ?_
  refine q_lstore (lv' := [(4, .long (a / b)), (0, .long a), (2, .long b)]) X dJ9_floorDiv_f86c9_3 (by decide) rfl ?_
  refine q_lload_n X 1 dJ9_floorDiv_f86c9_5 rfl ?_
  refine q_lload_n X 2 dJ9_floorDiv_f86c9_6 rfl ?_
  refine q_lxor X dJ9_floorDiv_f86c9_7 ?_
  refine q_lconst (v := 0) X dJ9_floorDiv_f86c9_8 (by decide) ?_
  refine q_lcmp X dJ9_floorDiv_f86c9_9 ?_
  refine q_if_ge (tgt := 27) X dJ9_floorDiv_f86c9_10 (by decide) (fun c1 => ?_) (fun c1 => ?_)
  · skip
    refine q_lload X 0 dJ9_floorDiv_f86c9_27 rfl ?_
    have E : Z = a / b := by exact hZ.symm.trans ((if_pos c1).trans rfl)
    exact q_lret X hret dJ9_floorDiv_f86c9_29 (by rw [E]) rfl
  · skip
    refine q_lload X 0 dJ9_floorDiv_f86c9_13 rfl ?_
    refine q_lload_n X 2 dJ9_floorDiv_f86c9_15 rfl ?_
    refine q_lmul X dJ9_floorDiv_f86c9_16 ?_
    refine q_lload_n X 1 dJ9_floorDiv_f86c9_17 rfl ?_
    refine q_lcmp X dJ9_floorDiv_f86c9_18 ?_
    refine q_if_eq (tgt := 27) X dJ9_floorDiv_f86c9_19 (by decide) (fun c2 => ?_) (fun c2 => ?_)
    · skip
      refine q_lload X 0 dJ9_floorDiv_f86c9_27 rfl ?_
      have E : Z = a / b := by exact hZ.symm.trans ((if_neg c1).trans ((if_pos c2).trans rfl))
      exact q_lret X hret dJ9_floorDiv_f86c9_29 (by rw [E]) rfl
    · skip
      refine q_lload X 0 dJ9_floorDiv_f86c9_22 rfl ?_
      refine q_lconst (v := 1) X dJ9_floorDiv_f86c9_24 (by decide) ?_
      refine q_lsub X dJ9_floorDiv_f86c9_25 ?_
      have E : Z = (a / b) - (1 : Int64) := by exact hZ.symm.trans ((if_neg c1).trans ((if_neg c2).trans rfl))
      exact q_lret X hret dJ9_floorDiv_f86c9_26 (by rw [E]) rfl
def S_X9_inRange (a : Int32) (b : Int32) (d : Int32) : Int32 := if a < b then (0) else (if d < a then (0) else (1))
set_option maxRecDepth 100000 in
set_option maxHeartbeats 4000000 in
theorem c_X9_inRange {G : Geo} {l : Launch} (hG : GOK G) {h : Hp} (a : Int32) (b : Int32) (d : Int32)  : CM G l yX9_inRange cX9_inRange 3 (some .boolean) 0 0 [.int a, .int b, .int d] h h (some (.int (S_X9_inRange a b d))) := by
  obtain ⟨Z, hZ⟩ : ∃ Z, S_X9_inRange a b d = Z := ⟨_, rfl⟩
  rw [hZ]
  refine q_enter hG mf_X9_inRange (Nat.le_of_ble_eq_true rfl) ?_
  intro p e s m below meth c X hret
  refine q_lv (lv2 := [(0, .int a), (1, .int b), (2, .int d)]) rfl ?_
  refine q_iload_n X 0 dX9_inRange_0 rfl ?_
  refine q_iload_n X 1 dX9_inRange_1 rfl ?_
  refine q_icmp_lt (tgt := 14) X dX9_inRange_2 (by decide) (fun c1 => ?_) (fun c1 => ?_)
  · skip
    refine q_iconst (v := 0) X dX9_inRange_14 (by decide) ?_
    have E : Z = 0 := by exact hZ.symm.trans ((if_pos c1).trans rfl)
    exact q_zret X hret rfl dX9_inRange_15 (by rw [E]) rfl
  · skip
    refine q_iload_n X 0 dX9_inRange_5 rfl ?_
    refine q_iload_n X 2 dX9_inRange_6 rfl ?_
    refine q_icmp_gt (tgt := 14) X dX9_inRange_7 (by decide) (fun c2 => ?_) (fun c2 => ?_)
    · skip
      refine q_iconst (v := 0) X dX9_inRange_14 (by decide) ?_
      have E : Z = 0 := by exact hZ.symm.trans ((if_neg c1).trans ((if_pos c2).trans rfl))
      exact q_zret X hret rfl dX9_inRange_15 (by rw [E]) rfl
    · skip
      refine q_iconst (v := 1) X dX9_inRange_10 (by decide) ?_
      refine q_goto (tgt := 15) X dX9_inRange_11 (by decide) ?_
      have E : Z = 1 := by exact hZ.symm.trans ((if_neg c1).trans ((if_neg c2).trans rfl))
      exact q_zret X hret rfl dX9_inRange_15 (by rw [E]) rfl
theorem Z_X9_inRange (a : Int32) (b : Int32) (d : Int32) : (S_X9_inRange a b d) = 0 ∨ (S_X9_inRange a b d) = 1 := by
  unfold S_X9_inRange
  (repeat' split) <;> first | exact Or.inl rfl | exact Or.inr rfl
def S_X9_clamp (a : Int32) (b : Int32) (d : Int32) : Int32 := S_J9_max_7cf53 b (S_J9_min_7cf53 a d)
set_option maxRecDepth 100000 in
set_option maxHeartbeats 4000000 in
theorem c_X9_clamp {G : Geo} {l : Launch} (hG : GOK G) {h : Hp} (a : Int32) (b : Int32) (d : Int32)  : CM G l yX9_clamp cX9_clamp 3 (some .int) 1 21 [.int a, .int b, .int d] h h (some (.int (S_X9_clamp a b d))) := by
  obtain ⟨Z, hZ⟩ : ∃ Z, S_X9_clamp a b d = Z := ⟨_, rfl⟩
  rw [hZ]
  refine q_enter hG mf_X9_clamp (Nat.le_of_ble_eq_true rfl) ?_
  intro p e s m below meth c X hret
  refine q_lv (lv2 := [(0, .int a), (1, .int b), (2, .int d)]) rfl ?_
  refine q_iload_n X 1 dX9_clamp_0 rfl ?_
  refine q_iload_n X 0 dX9_clamp_1 rfl ?_
  refine q_iload_n X 2 dX9_clamp_2 rfl ?_
  refine q_callS (h1 := _) (rest := [.int b]) (As := [.int a, .int d]) X (c_J9_min_7cf53 (l := l) hG   a d ) mf_J9_min_7cf53 ms_J9_min_7cf53 lk_X9_175 rfl ⟨by decide, by decide⟩ ⟨Nat.le_refl _, Nat.le_refl _⟩ rfl (Nat.le_of_ble_eq_true rfl) dX9_clamp_3 (st2 := [.int (S_J9_min_7cf53 a d), .int b]) rfl ?_
  refine q_callS (h1 := _) (rest := []) (As := [.int b, .int (S_J9_min_7cf53 a d)]) X (c_J9_max_7cf53 (l := l) hG   b (S_J9_min_7cf53 a d) ) mf_J9_max_7cf53 ms_J9_max_7cf53 lk_X9_233 rfl ⟨by decide, by decide⟩ ⟨Nat.le_refl _, Nat.le_refl _⟩ rfl (Nat.le_of_ble_eq_true rfl) dX9_clamp_6 (st2 := [.int (S_J9_max_7cf53 b (S_J9_min_7cf53 a d))]) rfl ?_
  have E : Z = S_J9_max_7cf53 b (S_J9_min_7cf53 a d) := by exact hZ.symm.trans (rfl)
  exact q_iret X hret dX9_clamp_9 (by rw [E]) rfl
def S_X9_quotient (a : Int64) (b : Int64) : Int64 := if (lg_cmp b (0 : Int64)) ≤ 0 then ((0 : Int64)) else (S_J9_floorDiv_f86c9 a b)
set_option maxRecDepth 100000 in
set_option maxHeartbeats 4000000 in
theorem c_X9_quotient {G : Geo} {l : Launch} (hG : GOK G) {h : Hp} (a : Int64) (b : Int64)  : CM G l yX9_quotient cX9_quotient 4 (some .long) 1 25 [.long a, .long b] h h (some (.long (S_X9_quotient a b))) := by
  obtain ⟨Z, hZ⟩ : ∃ Z, S_X9_quotient a b = Z := ⟨_, rfl⟩
  rw [hZ]
  refine q_enter hG mf_X9_quotient (Nat.le_of_ble_eq_true rfl) ?_
  intro p e s m below meth c X hret
  refine q_lv (lv2 := [(0, .long a), (2, .long b)]) rfl ?_
  refine q_lload_n X 1 dX9_quotient_0 rfl ?_
  refine q_lconst (v := 0) X dX9_quotient_1 (by decide) ?_
  refine q_lcmp X dX9_quotient_2 ?_
  suffices hJ3 : ∀ (m2 : Int64), m2 = (if (lg_cmp b (0 : Int64)) ≤ 0 then ((0 : Int64)) else (S_J9_floorDiv_f86c9 a b)) → VV G (AA G) p l e { frames := 1, cells := 0, slots := 0, locals := 25 } s m ([.long a, .long b] : List Value).toArray below meth c 0 0 (MQ below (QC G h (some (.long Z))) ([.long a, .long b] : List Value).toArray s 0 0 (AA G)) 4 h 15 [(0, .long a), (2, .long b)] [.long m2] by
    refine q_if_le (tgt := 14) X dX9_quotient_3 (by decide) (fun c1 => ?_) (fun c1 => ?_)
    · skip
      refine q_lconst (v := 0) X dX9_quotient_14 (by decide) ?_
      refine q_sub (lv2 := [(0, .long a), (2, .long b)]) [0, 1] rfl ?_
      exact hJ3 (0 : Int64) (by exact ((if_pos c1).trans rfl).symm)
    · skip
      refine q_lload_n X 0 dX9_quotient_6 rfl ?_
      refine q_lload_n X 1 dX9_quotient_7 rfl ?_
      refine q_callS (h1 := _) (rest := []) (As := [.long a, .long b]) X (c_J9_floorDiv_f86c9 (l := l) hG   a b (lgc_ne c1)) mf_J9_floorDiv_f86c9 ms_J9_floorDiv_f86c9 lk_X9_236 rfl ⟨by decide, by decide⟩ ⟨Nat.le_refl _, Nat.le_refl _⟩ rfl (Nat.le_of_ble_eq_true rfl) dX9_quotient_8 (st2 := [.long (S_J9_floorDiv_f86c9 a b)]) rfl ?_
      refine q_goto (tgt := 15) X dX9_quotient_11 (by decide) ?_
      refine q_sub (lv2 := [(0, .long a), (2, .long b)]) [0, 1] rfl ?_
      exact hJ3 (S_J9_floorDiv_f86c9 a b) (by exact ((if_neg c1).trans rfl).symm)
  intro m2 e_m2
  have E : Z = m2 := by subst e_m2; exact hZ.symm.trans (rfl)
  exact q_lret X hret dX9_quotient_15 (by rw [E]) rfl
/-- the class's own at, put and copyRow, of any int array of the arena -/
def S_at (row : Nat → Int32) (o t n : Nat) (i : Int32) : Int32 := if i < 0 then 0 else if Int32.ofNat n ≤ i then 0 else row (o + t * i.toNatClampNeg)
def S_put (row : Nat → Int32) (o t n : Nat) (i v : Int32) : Nat → Int32 := if i < 0 then row else if Int32.ofNat n ≤ i then row else va_up row (o + t * i.toNatClampNeg) v
def S_copy (frm row : Nat → Int32) (o t n : Nat) : Nat → Int32 := fun k => if o ≤ k ∧ (k - o) % t = 0 ∧ (k - o) / t < n then frm k else row k
theorem vin_n {i : Int32} {n : Nat} (hn : n < 2 ^ 31) (h0 : ¬ i < 0) (h1 : ¬ Int32.ofNat n ≤ i) : vp_in i n := by
  refine vin_of h0 ?_
  have a : (0 : Int) ≤ i.toInt := by
    have := Int32.not_lt.mp h0
    rw [Int32.le_iff_toInt_le] at this
    simpa using this
  have b : i.toInt < n := by
    have := Int32.not_le.mp h1
    rw [Int32.lt_iff_toInt_lt, Int32.toInt_ofNat_of_lt hn] at this
    exact this
  have c : (i.toNatClampNeg : Int) = i.toInt := by
    show ((i.toInt.toNat : Nat) : Int) = i.toInt
    omega
  omega
theorem ar_n_lt (T g : Nat) : ar_n T g < 2 ^ 31 := by
  unfold ar_n
  split <;> first | decide | (split <;> decide)
set_option maxRecDepth 100000 in
set_option maxHeartbeats 4000000 in
theorem c_X9_at {G : Geo} {l : Launch} (hG : GOK G) {g j o t n : Nat} {h : Hp} {row : Nat → Int32} (i : Int32) (hc : ar_cell (gT G g) j = some (.inr (.inl (o, t)))) (hr : h g = row) (hn : ar_n (gT G g) g = n) : CM G l yX9_at cX9_at 2 (some .int) 0 0 [.ref (gA G g j), .int i] h h (some (.int (S_at row o t n i))) := by
  subst hn
  refine q_enter hG mf_X9_at (Nat.le_of_ble_eq_true rfl) ?_
  intro p e s m below meth c X hret
  refine q_lv (lv2 := [(0, .ref (gA G g j)), (1, .int i)]) rfl ?_
  refine q_iload_n X 1 dX9_at_0 rfl ?_
  refine q_if_lt (tgt := 16) X dX9_at_1 (by decide) (fun c1 => ?_) (fun c1 => ?_)
  · refine q_iconst (v := 0) X dX9_at_16 (by decide) ?_
    exact q_iret X hret dX9_at_17 (by rw [S_at, if_pos c1]) rfl
  · refine q_iload_n X 1 dX9_at_4 rfl ?_
    refine q_aload_n X 0 dX9_at_5 rfl ?_
    refine q_alen X hc dX9_at_6 rfl ?_
    refine q_icmp_ge (tgt := 16) X dX9_at_7 (by decide) (fun c2 => ?_) (fun c2 => ?_)
    · refine q_iconst (v := 0) X dX9_at_16 (by decide) ?_
      exact q_iret X hret dX9_at_17 (by rw [S_at, if_neg c1, if_pos c2]) rfl
    · refine q_aload_n X 0 dX9_at_10 rfl ?_
      refine q_iload_n X 1 dX9_at_11 rfl ?_
      refine q_iald X hc (vin_n (ar_n_lt _ _) c1 c2) dX9_at_12 hr rfl ?_
      refine q_goto (tgt := 17) X dX9_at_13 (by decide) ?_
      exact q_iret X hret dX9_at_17 (by rw [S_at, if_neg c1, if_neg c2]) rfl
set_option maxRecDepth 100000 in
set_option maxHeartbeats 4000000 in
theorem c_X9_put {G : Geo} {l : Launch} (hG : GOK G) {g j o t n : Nat} {h : Hp} {row : Nat → Int32} (i v : Int32) (hc : ar_cell (gT G g) j = some (.inr (.inl (o, t)))) (hr : h g = row) (hn : ar_n (gT G g) g = n) : CM G l yX9_put cX9_put 3 none 0 0 [.ref (gA G g j), .int i, .int v] h (va_up h g (S_put row o t n i v)) none := by
  subst hn
  refine q_enter hG mf_X9_put (Nat.le_of_ble_eq_true rfl) ?_
  intro p e s m below meth c X hret
  refine q_lv (lv2 := [(0, .ref (gA G g j)), (1, .int i), (2, .int v)]) rfl ?_
  refine q_iload_n X 1 dX9_put_0 rfl ?_
  refine q_if_lt (tgt := 14) X dX9_put_1 (by decide) (fun c1 => ?_) (fun c1 => ?_)
  · exact q_vret X hret dX9_put_14 rfl (by rw [S_put, if_pos c1]; exact va_up_id2 hr)
  · refine q_iload_n X 1 dX9_put_4 rfl ?_
    refine q_aload_n X 0 dX9_put_5 rfl ?_
    refine q_alen X hc dX9_put_6 rfl ?_
    refine q_icmp_ge (tgt := 14) X dX9_put_7 (by decide) (fun c2 => ?_) (fun c2 => ?_)
    · exact q_vret X hret dX9_put_14 rfl (by rw [S_put, if_neg c1, if_pos c2]; exact va_up_id2 hr)
    · refine q_aload_n X 0 dX9_put_10 rfl ?_
      refine q_iload_n X 1 dX9_put_11 rfl ?_
      refine q_iload_n X 2 dX9_put_12 rfl ?_
      refine q_iast X hc (vin_n (ar_n_lt _ _) c1 c2) dX9_put_13 hr rfl ?_
      exact q_vret X hret dX9_put_14 rfl (by rw [S_put, if_neg c1, if_neg c2])
theorem oN_clamp {n : Nat} (hn : n < 2 ^ 31) : (Int32.ofNat n).toNatClampNeg = n := by
  show (Int32.ofNat n).toInt.toNat = n
  rw [Int32.toInt_ofNat_of_lt hn]
  rfl
theorem S_copy_arr {frm row : Nat → Int32} {o t n : Nat} (ht : 0 < t) : (fun k => S_copy frm row o t n (o + t * k)) = va_cpy (fun k => frm (o + t * k)) (fun k => row (o + t * k)) 0 0 n := by
  funext k
  unfold S_copy va_cpy
  have e1 : (o + t * k - o) % t = 0 := by rw [Nat.add_sub_cancel_left, Nat.mul_mod_right]
  have e2 : (o + t * k - o) / t = k := by rw [Nat.add_sub_cancel_left, Nat.mul_div_cancel_left _ ht]
  by_cases h : k < n
  · rw [if_pos ⟨Nat.le_add_right _ _, e1, by rw [e2]; exact h⟩, if_pos ⟨Nat.zero_le _, by omega⟩, Nat.zero_add, Nat.sub_zero]
  · rw [if_neg (fun z => h (by rw [← e2]; exact z.2.2)), if_neg (fun z => h (by omega))]
theorem S_copy_oth {frm row : Nat → Int32} {T j o t n : Nat} (hc : ar_cell T j = some (.inr (.inl (o, t)))) {j' sl : Nat} (hn : j' ≠ j) (hc' : ar_cell T j' ≠ none) (hu : ar_uses T j' sl = true) : S_copy frm row o t n sl = row sl := by
  unfold S_copy
  refine if_neg (fun z => ?_)
  have h1 := (ar_arr_one ((sl - o) / t) hc).2
  have h2 : o + t * ((sl - o) / t) = sl := by
    have := Nat.div_add_mod (sl - o) t
    omega
  rw [h2] at h1
  rw [ar_one_use h1 hn hc'] at hu
  cases hu
set_option maxRecDepth 100000 in
set_option maxHeartbeats 4000000 in
theorem c_X9_copyRow {G : Geo} {l : Launch} (hG : GOK G) {g g' j o t n : Nat} {h : Hp} {frm row : Nat → Int32} (hc : ar_cell (gT G g) j = some (.inr (.inl (o, t)))) (hc' : ar_cell (gT G g') j = some (.inr (.inl (o, t)))) (hr : h g = frm) (hr' : h g' = row) (hn : ar_n (gT G g) g = n) (hn' : ar_n (gT G g') g' = n) : CM G l yX9_copyRow cX9_copyRow 2 none 1 60 [.ref (gA G g j), .ref (gA G g' j)] h (va_up h g' (S_copy frm row o t n)) none := by
  have hnl : n < 2 ^ 31 := by rw [← hn]; exact ar_n_lt _ _
  refine q_enter hG mf_X9_copyRow (Nat.le_of_ble_eq_true rfl) ?_
  intro p e s m below meth c X hret
  refine q_lv (lv2 := [(0, .ref (gA G g j)), (1, .ref (gA G g' j))]) rfl ?_
  refine q_aload_n X 0 dX9_copyRow_0 rfl ?_
  refine q_iconst (v := 0) X dX9_copyRow_1 (by decide) ?_
  refine q_aload_n X 1 dX9_copyRow_2 rfl ?_
  refine q_iconst (v := 0) X dX9_copyRow_3 (by decide) ?_
  refine q_aload_n X 0 dX9_copyRow_4 rfl ?_
  refine q_alen (x := Int32.ofNat n) X hc dX9_copyRow_5 (by rw [hn]) ?_
  refine q_aload_n X 1 dX9_copyRow_6 rfl ?_
  refine q_alen (x := Int32.ofNat n) X hc' dX9_copyRow_7 (by rw [hn']) ?_
  refine q_callS (rest := [.int 0, .ref (gA G g' j), .int 0, .ref (gA G g j)]) (As := [.int (Int32.ofNat n), .int (Int32.ofNat n)]) X (c_J9_min_7cf53 (l := l) hG (Int32.ofNat n) (Int32.ofNat n)) mf_J9_min_7cf53 ms_J9_min_7cf53 lk_X9_175 rfl ⟨by decide, by decide⟩ ⟨Nat.le_refl _, Nat.le_refl _⟩ rfl (Nat.le_of_ble_eq_true rfl) dX9_copyRow_8 (st2 := [.int (Int32.ofNat n), .int 0, .ref (gA G g' j), .int 0, .ref (gA G g j)]) (by show [Value.int (S_J9_min_7cf53 (Int32.ofNat n) (Int32.ofNat n)), _, _, _, _] = _; rw [show S_J9_min_7cf53 (Int32.ofNat n) (Int32.ofNat n) = Int32.ofNat n from by show (if Int32.ofNat n < Int32.ofNat n then Int32.ofNat n else Int32.ofNat n) = _; split <;> rfl]) ?_
  have ht := (ar_arr_one 0 hc).1
  have h3 : ¬ Int32.ofNat n < 0 := by
    rw [Int32.lt_iff_toInt_lt, Int32.toInt_ofNat_of_lt hnl]
    show ¬ (n : Int) < 0
    omega
  refine q_copy (rest := []) (h2 := va_up h g' (S_copy frm row o t n)) X hc hc' lk_copy h3 (by rw [oN_clamp hnl, hn]; exact Nat.le_refl _) (by rw [oN_clamp hnl, hn']; exact Nat.le_refl _) ⟨by decide, by decide⟩ dX9_copyRow_11 ?_ ?_ ?_
  · unfold ar_e
    rw [hc', oN_clamp hnl, hr, hr']
    show Sum.inl (gI G, ar_n (gT G g') g', Sum.inl (fun k => va_up h g' (S_copy frm row o t n) g' (o + t * k))) = _
    rw [va_up_self, S_copy_arr ht]
  · intro a b hab hne
    refine ar_cong (fun sl hs => ?_)
    by_cases ha : a = g'
    · subst ha
      rw [va_up_self, S_copy_oth hc' (fun z => hne ⟨rfl, z⟩) hab hs, hr']
    · rw [va_up_ne _ _ ha]
  · exact q_vret X hret dX9_copyRow_14 rfl rfl
