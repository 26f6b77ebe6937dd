theorem slotT {G : Geo} (hK : KT G) {gs k : Nat} (e : gs = 11 + 5 * k) (hk : k < 5) : 11 ≤ gs ∧ gT G gs = 1 ∧ gT G (gs + 1) = 2 ∧ gT G (gs + 2) = 3 ∧ gT G (gs + 3) = 3 ∧ gT G (gs + 4) = 5 ∧ ar_n (gT G (gs + 2)) (gs + 2) = 8 ∧ ar_n (gT G (gs + 3)) (gs + 3) = 6 := by
  have key : ∀ j : Nat, j < 5 → 11 ≤ 11 + 5 * j ∧ gT G (11 + 5 * j) = 1 ∧ gT G (11 + 5 * j + 1) = 2 ∧ gT G (11 + 5 * j + 2) = 3 ∧ gT G (11 + 5 * j + 3) = 3 ∧ gT G (11 + 5 * j + 4) = 5 ∧ ar_n (gT G (11 + 5 * j + 2)) (11 + 5 * j + 2) = 8 ∧ ar_n (gT G (11 + 5 * j + 3)) (11 + 5 * j + 3) = 6 := by
    intro j hj
    rw [hK _ (by omega), hK _ (by omega), hK _ (by omega), hK _ (by omega), hK _ (by omega)]
    rcases (show j = 0 ∨ j = 1 ∨ j = 2 ∨ j = 3 ∨ j = 4 by omega) with rfl | rfl | rfl | rfl | rfl <;> decide
  rw [e]
  exact key k hk
theorem ms_gt {a k : Int32} {f : Nat} (ha : a.toInt < 2147483647) (h : ¬ a < k) (hm : (a.toInt + 1 - k.toInt).toNat < f + 1) : (a.toInt + 1 - (k + 1).toInt).toNat < f := by
  have h1 := Int32.not_lt.mp h
  rw [Int32.le_iff_toInt_le] at h1
  have h2 : (k + 1).toInt = k.toInt + 1 := by
    rw [Int32.toInt_add, show (1 : Int32).toInt = 1 from rfl]
    have a1 := Int32.le_toInt k
    exact Int.bmod_eq_of_le (by omega) (by omega)
  omega
def S_X7_copyFrom (a1 : Nat → Int32) (a2 : Nat → Int32) (a3 : Nat → Int32) (a4 : Nat → Int32) (b1 : Nat → Int32) (b2 : Nat → Int32) (b3 : Nat → Int32) (b4 : Nat → Int32) (n1 : Nat) (n2 : Nat) : (Nat → Int32) × (Nat → Int32) × (Nat → Int32) × (Nat → Int32) := let r1 : Nat → Int32 := S_X4_copyFrom a1 b1; let r2 : Nat → Int32 := S_X6_copyFrom a2 b2 n1; let r3 : Nat → Int32 := S_X6_copyFrom a3 b3 n2; let r4 : Nat → Int32 := S_X2_copyFrom a4 b4; (r1, r2, r3, r4)
set_option maxRecDepth 100000 in
set_option maxHeartbeats 4000000 in
theorem c_X7_copyFrom {G : Geo} {l : Launch} (hG : GOK G) {g g2 : Nat} {h : Hp} {a1 : Nat → Int32} {a2 : Nat → Int32} {a3 : Nat → Int32} {a4 : Nat → Int32} {b1 : Nat → Int32} {b2 : Nat → Int32} {b3 : Nat → Int32} {b4 : Nat → Int32} {n1 : Nat} {n2 : Nat} (hT_g : gT G g = 1) (hT_g_1 : gT G (g + 1) = 2) (hT_g_2 : gT G (g + 2) = 3) (hT_g_3 : gT G (g + 3) = 3) (hT_g_4 : gT G (g + 4) = 5) (hT_g2 : gT G g2 = 1) (hT_g2_1 : gT G (g2 + 1) = 2) (hT_g2_2 : gT G (g2 + 2) = 3) (hT_g2_3 : gT G (g2 + 3) = 3) (hT_g2_4 : gT G (g2 + 4) = 5) (hr_g_1 : h (g + 1) = a1) (hr_g_2 : h (g + 2) = a2) (hr_g_3 : h (g + 3) = a3) (hr_g_4 : h (g + 4) = a4) (hr_g2_1 : h (g2 + 1) = b1) (hr_g2_2 : h (g2 + 2) = b2) (hr_g2_3 : h (g2 + 3) = b3) (hr_g2_4 : h (g2 + 4) = b4) (hn_g_2 : ar_n (gT G (g + 2)) (g + 2) = n1) (hn_g2_2 : ar_n (gT G (g2 + 2)) (g2 + 2) = n1) (hn_g_3 : ar_n (gT G (g + 3)) (g + 3) = n2) (hn_g2_3 : ar_n (gT G (g2 + 3)) (g2 + 3) = n2) (hne : g2 + 4 < g ∨ g + 4 < g2) : CM G l yX7_copyFrom cX7_copyFrom 2 none 4 123 [.ref (gA G g 0), .ref (gA G g2 0)] h (va_up (va_up (va_up (va_up h (g + 1) ((S_X7_copyFrom a1 a2 a3 a4 b1 b2 b3 b4 n1 n2).1)) (g + 2) ((S_X7_copyFrom a1 a2 a3 a4 b1 b2 b3 b4 n1 n2).2.1)) (g + 3) ((S_X7_copyFrom a1 a2 a3 a4 b1 b2 b3 b4 n1 n2).2.2.1)) (g + 4) ((S_X7_copyFrom a1 a2 a3 a4 b1 b2 b3 b4 n1 n2).2.2.2)) none := by
  obtain ⟨Z, hZ⟩ : ∃ Z, S_X7_copyFrom a1 a2 a3 a4 b1 b2 b3 b4 n1 n2 = Z := ⟨_, rfl⟩
  rw [hZ]
  refine q_enter hG mf_X7_copyFrom (Nat.le_of_ble_eq_true rfl) ?_
  intro p e s m below meth c X hret
  refine q_lv (lv2 := [(0, .ref (gA G g 0)), (1, .ref (gA G g2 0))]) rfl ?_
  refine q_aload_n X 0 dX7_copyFrom_0 rfl ?_
  refine q_get (fk := 0) (v := .ref (gA G (g + 1) 0)) X cf_X7 (ac_1_0 hT_g) (by decide) fl_X7_12 rfl rfl dX7_copyFrom_1 rfl ?_
  refine q_aload_n X 1 dX7_copyFrom_4 rfl ?_
  refine q_get (fk := 0) (v := .ref (gA G (g2 + 1) 0)) X cf_X7 (ac_1_0 hT_g2) (by decide) fl_X7_12 rfl rfl dX7_copyFrom_5 rfl ?_
  obtain ⟨r1, e_r1⟩ : ∃ z : Nat → Int32, z = S_X4_copyFrom a1 b1 := ⟨_, rfl⟩
  refine q_callV (h1 := _) (rest := []) (As := [.ref (gA G (g2 + 1) 0)]) X (c_X4_copyFrom (l := l) hG (ρ := a1) (ρ2 := b1)   hT_g_1 hT_g2_1 (hr_g_1) (hr_g2_1) (by omega)) mf_X4_copyFrom mv_X4_copyFrom cf_X4 rfl (ac_2_0 hT_g_1) lk_X7_37 rfl ⟨by decide, by decide⟩ ⟨Nat.le_refl _, Nat.le_refl _⟩ rfl (Nat.le_of_ble_eq_true rfl) dX7_copyFrom_8 (st2 := []) rfl ?_
  refine q_eq (h2 := va_up h (g + 1) r1) (by rw [e_r1]) rfl ?_
  refine q_aload_n X 0 dX7_copyFrom_11 rfl ?_
  refine q_get (fk := 1) (v := .ref (gA G (g + 2) 0)) X cf_X7 (ac_1_0 hT_g) (by decide) fl_X7_23 rfl rfl dX7_copyFrom_12 rfl ?_
  refine q_aload_n X 1 dX7_copyFrom_15 rfl ?_
  refine q_get (fk := 1) (v := .ref (gA G (g2 + 2) 0)) X cf_X7 (ac_1_0 hT_g2) (by decide) fl_X7_23 rfl rfl dX7_copyFrom_16 rfl ?_
  obtain ⟨r2, e_r2⟩ : ∃ z : Nat → Int32, z = S_X6_copyFrom a2 b2 n1 := ⟨_, rfl⟩
  refine q_callV (h1 := _) (rest := []) (As := [.ref (gA G (g2 + 2) 0)]) X (c_X6_copyFrom (l := l) hG (ρ := a2) (ρ2 := b2) (n := n1)  hT_g_2 hT_g2_2 ((va_up_ne _ _ (by omega)).trans (hr_g_2)) ((va_up_ne _ _ (ne_ty hT_g2_2 hT_g_1 (by decide))).trans (hr_g2_2)) hn_g_2 hn_g2_2 (by omega)) mf_X6_copyFrom mv_X6_copyFrom cf_X6 rfl (ac_3_0 hT_g_2) lk_X7_41 rfl ⟨by decide, by decide⟩ ⟨Nat.le_refl _, Nat.le_refl _⟩ rfl (Nat.le_of_ble_eq_true rfl) dX7_copyFrom_19 (st2 := []) rfl ?_
  refine q_eq (h2 := va_up (va_up h (g + 1) r1) (g + 2) r2) (by rw [e_r2]) rfl ?_
  refine q_aload_n X 0 dX7_copyFrom_22 rfl ?_
  refine q_get (fk := 2) (v := .ref (gA G (g + 3) 0)) X cf_X7 (ac_1_0 hT_g) (by decide) fl_X7_27 rfl rfl dX7_copyFrom_23 rfl ?_
  refine q_aload_n X 1 dX7_copyFrom_26 rfl ?_
  refine q_get (fk := 2) (v := .ref (gA G (g2 + 3) 0)) X cf_X7 (ac_1_0 hT_g2) (by decide) fl_X7_27 rfl rfl dX7_copyFrom_27 rfl ?_
  obtain ⟨r3, e_r3⟩ : ∃ z : Nat → Int32, z = S_X6_copyFrom a3 b3 n2 := ⟨_, rfl⟩
  refine q_callV (h1 := _) (rest := []) (As := [.ref (gA G (g2 + 3) 0)]) X (c_X6_copyFrom (l := l) hG (ρ := a3) (ρ2 := b3) (n := n2)  hT_g_3 hT_g2_3 ((va_up_ne _ _ (by omega)).trans ((va_up_ne _ _ (by omega)).trans (hr_g_3))) ((va_up_ne _ _ (by omega)).trans ((va_up_ne _ _ (ne_ty hT_g2_3 hT_g_1 (by decide))).trans (hr_g2_3))) hn_g_3 hn_g2_3 (by omega)) mf_X6_copyFrom mv_X6_copyFrom cf_X6 rfl (ac_3_0 hT_g_3) lk_X7_41 rfl ⟨by decide, by decide⟩ ⟨Nat.le_refl _, Nat.le_refl _⟩ rfl (Nat.le_of_ble_eq_true rfl) dX7_copyFrom_30 (st2 := []) rfl ?_
  refine q_eq (h2 := va_up (va_up (va_up h (g + 1) r1) (g + 2) r2) (g + 3) r3) (by rw [e_r3]) rfl ?_
  refine q_aload_n X 0 dX7_copyFrom_33 rfl ?_
  refine q_get (fk := 3) (v := .ref (gA G (g + 4) 0)) X cf_X7 (ac_1_0 hT_g) (by decide) fl_X7_33 rfl rfl dX7_copyFrom_34 rfl ?_
  refine q_aload_n X 1 dX7_copyFrom_37 rfl ?_
  refine q_get (fk := 3) (v := .ref (gA G (g2 + 4) 0)) X cf_X7 (ac_1_0 hT_g2) (by decide) fl_X7_33 rfl rfl dX7_copyFrom_38 rfl ?_
  obtain ⟨r4, e_r4⟩ : ∃ z : Nat → Int32, z = S_X2_copyFrom a4 b4 := ⟨_, rfl⟩
  refine q_callV (h1 := _) (rest := []) (As := [.ref (gA G (g2 + 4) 0)]) X (c_X2_copyFrom (l := l) hG (ρ := a4) (ρ2 := b4)   hT_g_4 hT_g2_4 ((va_up_ne _ _ (by omega)).trans ((va_up_ne _ _ (by omega)).trans ((va_up_ne _ _ (by omega)).trans (hr_g_4)))) ((va_up_ne _ _ (ne_ty hT_g2_4 hT_g_3 (by decide))).trans ((va_up_ne _ _ (ne_ty hT_g2_4 hT_g_2 (by decide))).trans ((va_up_ne _ _ (ne_ty hT_g2_4 hT_g_1 (by decide))).trans (hr_g2_4)))) (by omega)) mf_X2_copyFrom mv_X2_copyFrom cf_X2 rfl (ac_5_0 hT_g_4) lk_X7_44 rfl ⟨by decide, by decide⟩ ⟨Nat.le_refl _, Nat.le_refl _⟩ rfl (Nat.le_of_ble_eq_true rfl) dX7_copyFrom_41 (st2 := []) rfl ?_
  refine q_eq (h2 := va_up (va_up (va_up (va_up h (g + 1) r1) (g + 2) r2) (g + 3) r3) (g + 4) r4) (by rw [e_r4]) rfl ?_
  have E : Z = (r1, r2, r3, r4) := by subst e_r4; subst e_r3; subst e_r2; subst e_r1; exact hZ.symm.trans (rfl)
  exact q_vret X hret dX7_copyFrom_44 rfl (by rw [E])
def S_X1_slot (ρ : Nat → Int32) (st : Int32) : Nat := Int32.toNatClampNeg (S_J9_floorMod_7cf53 ((ρ 0) + st) 5)
set_option maxRecDepth 100000 in
set_option maxHeartbeats 4000000 in
theorem c_X1_slot {G : Geo} {l : Launch} (hG : GOK G) {h : Hp} {ρ : Nat → Int32} (st : Int32) (hK : KT G) (hr_10 : h 10 = ρ) : CM G l yX1_slot cX1_slot 3 (some (.object "RoastKeeper$State")) 1 22 [.ref (gA G 10 0), .int st] h h (some (.ref (gA G (11 + 5 * (S_X1_slot ρ st)) 0))) := by
  obtain ⟨Z, hZ⟩ : ∃ Z, S_X1_slot ρ st = Z := ⟨_, rfl⟩
  rw [hZ]
  refine q_enter hG mf_X1_slot (Nat.le_of_ble_eq_true rfl) ?_
  intro p e s m below meth c X hret
  have hT_10 : gT G 10 = 8 := hK 10 (by decide)
  refine q_lv (lv2 := [(0, .ref (gA G 10 0)), (1, .int st)]) rfl ?_
  refine q_aload_n X 0 dX1_slot_0 rfl ?_
  refine q_geti (fk := 1) (x := ρ 0) X cf_X1 (ac_8_0 hT_10) (by decide) fl_X1_17 rfl rfl dX1_slot_1 (hr_10) rfl ?_
  refine q_iload_n X 1 dX1_slot_4 rfl ?_
  refine q_iadd X dX1_slot_5 ?_
  refine q_iconst (v := 5) X dX1_slot_6 (by decide) ?_
  refine q_callS (h1 := _) (rest := []) (As := [.int ((ρ 0) + st), .int 5]) X (c_J9_floorMod_7cf53 (l := l) hG   ((ρ 0) + st) 5 (by decide)) mf_J9_floorMod_7cf53 ms_J9_floorMod_7cf53 lk_X1_33 rfl ⟨by decide, by decide⟩ ⟨Nat.le_refl _, Nat.le_refl _⟩ rfl (Nat.le_of_ble_eq_true rfl) dX1_slot_7 (st2 := [.int (S_J9_floorMod_7cf53 ((ρ 0) + st) 5)]) rfl ?_
  refine q_istore_n (lv' := [(2, .int (S_J9_floorMod_7cf53 ((ρ 0) + st) 5)), (0, .ref (gA G 10 0)), (1, .int st)]) X dX1_slot_10 (by decide) rfl ?_
  refine q_iload_n X 0 dX1_slot_11 rfl ?_
  refine q_if_lt (tgt := 33) X dX1_slot_12 (by decide) (fun q => absurd q (fmF5 _).1) (fun _ => ?_)
  refine q_iload_n X 0 dX1_slot_15 rfl ?_
  refine q_aload_n X 1 dX1_slot_16 rfl ?_
  refine q_get (fk := 0) (v := .ref (gA G 10 1)) X cf_X1 (ac_8_0 hT_10) (by decide) fl_X1_11 rfl rfl dX1_slot_17 rfl ?_
  refine q_alenS X (ac_8_1 hT_10) dX1_slot_20 ?_
  refine q_icmp_ge (tgt := 33) X dX1_slot_21 (by decide) (fun q => absurd q (fmF5 _).2) (fun _ => ?_)
  refine q_aload_n X 1 dX1_slot_24 rfl ?_
  refine q_get (fk := 0) (v := .ref (gA G 10 1)) X cf_X1 (ac_8_0 hT_10) (by decide) fl_X1_11 rfl rfl dX1_slot_25 rfl ?_
  refine q_iload_n X 0 dX1_slot_28 rfl ?_
  refine q_ald (g2 := 11 + 5 * Int32.toNatClampNeg (S_J9_floorMod_7cf53 ((ρ 0) + st) 5)) X (ac_8_1 hT_10) (vin_of (fmF5 _).1 (fmN5 _)) dX1_slot_29 rfl ?_
  refine q_goto (tgt := 34) X dX1_slot_30 (by decide) ?_
  have E : Z = Int32.toNatClampNeg (S_J9_floorMod_7cf53 ((ρ 0) + st) 5) := by exact hZ.symm.trans (rfl)
  exact q_aret X hret dX1_slot_34 (by rw [E]) rfl
def S_X1_remember (h : Hp) : Hp := let m2 : Nat → Int32 := if ((h 10) 1) = 5 then (let r3 : Nat → Int32 := va_up (h 10) 0 (((h 10) 0) + 1); va_up r3 1 ((r3 1) - 1)) else ((h 10)); let gs6 : Nat := 11 + 5 * (S_X1_slot m2 (m2 1)); let r7 : Nat → Int32 := (S_X7_copyFrom (h (gs6 + 1)) (h (gs6 + 2)) (h (gs6 + 3)) (h (gs6 + 4)) (h 2) (h 3) (h 4) (h 5) 8 6).1; let r8 : Nat → Int32 := (S_X7_copyFrom (h (gs6 + 1)) (h (gs6 + 2)) (h (gs6 + 3)) (h (gs6 + 4)) (h 2) (h 3) (h 4) (h 5) 8 6).2.1; let r9 : Nat → Int32 := (S_X7_copyFrom (h (gs6 + 1)) (h (gs6 + 2)) (h (gs6 + 3)) (h (gs6 + 4)) (h 2) (h 3) (h 4) (h 5) 8 6).2.2.1; let r10 : Nat → Int32 := (S_X7_copyFrom (h (gs6 + 1)) (h (gs6 + 2)) (h (gs6 + 3)) (h (gs6 + 4)) (h 2) (h 3) (h 4) (h 5) 8 6).2.2.2; let r11 : Nat → Int32 := va_up m2 1 ((m2 1) + 1); va_up (va_up (va_up (va_up (va_up h (gs6 + 1) r7) (gs6 + 2) r8) (gs6 + 3) r9) (gs6 + 4) r10) 10 r11
set_option maxRecDepth 100000 in
set_option maxHeartbeats 4000000 in
theorem c_X1_remember {G : Geo} {l : Launch} (hG : GOK G) {h : Hp}  (hK : KT G) : CM G l yX1_remember cX1_remember 3 none 5 144 [.ref (gA G 10 0), .ref (gA G 1 0)] h (S_X1_remember h) none := by
  obtain ⟨Z, hZ⟩ : ∃ Z, S_X1_remember h = Z := ⟨_, rfl⟩
  rw [hZ]
  refine q_enter hG mf_X1_remember (Nat.le_of_ble_eq_true rfl) ?_
  intro p e s m below meth c X hret
  have hT_0 : gT G 0 = 0 := hK 0 (by decide)
  have hT_1 : gT G 1 = 1 := hK 1 (by decide)
  have hT_2 : gT G 2 = 2 := hK 2 (by decide)
  have hT_3 : gT G 3 = 3 := hK 3 (by decide)
  have hT_4 : gT G 4 = 3 := hK 4 (by decide)
  have hT_5 : gT G 5 = 5 := hK 5 (by decide)
  have hT_6 : gT G 6 = 2 := hK 6 (by decide)
  have hT_7 : gT G 7 = 6 := hK 7 (by decide)
  have hT_8 : gT G 8 = 7 := hK 8 (by decide)
  have hT_9 : gT G 9 = 3 := hK 9 (by decide)
  have hT_10 : gT G 10 = 8 := hK 10 (by decide)
  refine q_lv (lv2 := [(0, .ref (gA G 10 0)), (1, .ref (gA G 1 0))]) rfl ?_
  refine q_aload_n X 0 dX1_remember_0 rfl ?_
  refine q_geti (fk := 2) (x := (h 10) 1) X cf_X1 (ac_8_0 hT_10) (by decide) fl_X1_21 rfl rfl dX1_remember_1 (rfl) rfl ?_
  refine q_iconst (v := 5) X dX1_remember_4 (by decide) ?_
  suffices hJ5 : ∀ (m2 : Nat → Int32), m2 = (if ((h 10) 1) = 5 then (let r3 : Nat → Int32 := va_up (h 10) 0 (((h 10) 0) + 1); va_up r3 1 ((r3 1) - 1)) else ((h 10))) → VV G (AA G) p l e { frames := 5, cells := 0, slots := 0, locals := 144 } s m ([.ref (gA G 10 0), .ref (gA G 1 0)] : List Value).toArray below meth c 0 0 (MQ below (QC G Z none) ([.ref (gA G 10 0), .ref (gA G 1 0)] : List Value).toArray s 0 0 (AA G)) 3 (va_up h 10 m2) 28 [(0, .ref (gA G 10 0)), (1, .ref (gA G 1 0))] [] by
    refine q_icmp_ne (tgt := 28) X dX1_remember_5 (by decide) (fun c1 => ?_) (fun c1 => ?_)
    · skip
      refine q_sub (lv2 := [(0, .ref (gA G 10 0)), (1, .ref (gA G 1 0))]) [0, 1] rfl ?_
      refine q_eq (h2 := va_up h 10 (h 10)) (va_up_id2 (rfl)).symm rfl ?_
      exact hJ5 (h 10) (by exact ((if_neg c1).trans rfl).symm)
    · skip
      refine q_aload_n X 0 dX1_remember_8 rfl ?_
      refine q_dup X dX1_remember_9 rfl ?_
      refine q_geti (fk := 1) (x := (h 10) 0) X cf_X1 (ac_8_0 hT_10) (by decide) fl_X1_17 rfl rfl dX1_remember_10 (rfl) rfl ?_
      refine q_iconst (v := 1) X dX1_remember_13 (by decide) ?_
      refine q_iadd X dX1_remember_14 ?_
      obtain ⟨r3, e_r3⟩ : ∃ z : Nat → Int32, z = va_up (h 10) 0 (((h 10) 0) + 1) := ⟨_, rfl⟩
      refine q_put (fk := 1) (h2 := va_up h 10 r3) X cf_X1 (ac_8_0 hT_10) (by decide) fl_X1_17 rfl rfl (by rw [hT_10]; rfl) rfl rfl rfl dX1_remember_15 (rfl) (by rw [e_r3]) ?_
      refine q_aload_n X 0 dX1_remember_18 rfl ?_
      refine q_dup X dX1_remember_19 rfl ?_
      refine q_geti (fk := 2) (x := r3 1) X cf_X1 (ac_8_0 hT_10) (by decide) fl_X1_21 rfl rfl dX1_remember_20 (va_up_self _ _ _) rfl ?_
      refine q_iconst (v := 1) X dX1_remember_23 (by decide) ?_
      refine q_isub X dX1_remember_24 ?_
      obtain ⟨r4, e_r4⟩ : ∃ z : Nat → Int32, z = va_up r3 1 ((r3 1) - 1) := ⟨_, rfl⟩
      refine q_put (fk := 2) (h2 := va_up h 10 r4) X cf_X1 (ac_8_0 hT_10) (by decide) fl_X1_21 rfl rfl (by rw [hT_10]; rfl) rfl rfl rfl dX1_remember_25 (va_up_self _ _ _) (by rw [e_r4, va_up_up]) ?_
      refine q_sub (lv2 := [(0, .ref (gA G 10 0)), (1, .ref (gA G 1 0))]) [0, 1] rfl ?_
      exact hJ5 r4 (by subst e_r4; subst e_r3; exact ((if_pos c1).trans rfl).symm)
  intro m2 e_m2
  refine q_aload_n X 0 dX1_remember_28 rfl ?_
  refine q_aload_n X 0 dX1_remember_29 rfl ?_
  refine q_geti (fk := 2) (x := m2 1) X cf_X1 (ac_8_0 hT_10) (by decide) fl_X1_21 rfl rfl dX1_remember_30 (va_up_self _ _ _) rfl ?_
  refine q_callV (h1 := _) (rest := []) (As := [.int (m2 1)]) X (c_X1_slot (l := l) hG (ρ := m2)  (m2 1) hK (va_up_self _ _ _)) mf_X1_slot mv_X1_slot cf_X1 rfl (ac_8_0 hT_10) lk_X1_25 rfl ⟨by decide, by decide⟩ ⟨Nat.le_refl _, Nat.le_refl _⟩ rfl (Nat.le_of_ble_eq_true rfl) dX1_remember_33 (st2 := [.ref (gA G (11 + 5 * (S_X1_slot m2 (m2 1))) 0)]) rfl ?_
  obtain ⟨gs6, e_gs6⟩ : ∃ z : Nat, z = 11 + 5 * (S_X1_slot m2 (m2 1)) := ⟨_, rfl⟩
  rw [← e_gs6]
  obtain ⟨hgs_gs6, hT_gs6, hT_gs6_1, hT_gs6_2, hT_gs6_3, hT_gs6_4, hn_gs6_2, hn_gs6_3⟩ := slotT hK e_gs6 (fmN5 _)
  refine q_astore_n (lv' := [(2, .ref (gA G gs6 0)), (0, .ref (gA G 10 0)), (1, .ref (gA G 1 0))]) X dX1_remember_36 (by decide) rfl ?_
  refine q_aload_n X 0 dX1_remember_37 rfl ?_
  refine q_ifnull X dX1_remember_38 ?_
  refine q_aload_n X 0 dX1_remember_41 rfl ?_
  refine q_aload_n X 2 dX1_remember_42 rfl ?_
  obtain ⟨r7, e_r7⟩ : ∃ z : Nat → Int32, z = (S_X7_copyFrom (h (gs6 + 1)) (h (gs6 + 2)) (h (gs6 + 3)) (h (gs6 + 4)) (h 2) (h 3) (h 4) (h 5) 8 6).1 := ⟨_, rfl⟩
  obtain ⟨r8, e_r8⟩ : ∃ z : Nat → Int32, z = (S_X7_copyFrom (h (gs6 + 1)) (h (gs6 + 2)) (h (gs6 + 3)) (h (gs6 + 4)) (h 2) (h 3) (h 4) (h 5) 8 6).2.1 := ⟨_, rfl⟩
  obtain ⟨r9, e_r9⟩ : ∃ z : Nat → Int32, z = (S_X7_copyFrom (h (gs6 + 1)) (h (gs6 + 2)) (h (gs6 + 3)) (h (gs6 + 4)) (h 2) (h 3) (h 4) (h 5) 8 6).2.2.1 := ⟨_, rfl⟩
  obtain ⟨r10, e_r10⟩ : ∃ z : Nat → Int32, z = (S_X7_copyFrom (h (gs6 + 1)) (h (gs6 + 2)) (h (gs6 + 3)) (h (gs6 + 4)) (h 2) (h 3) (h 4) (h 5) 8 6).2.2.2 := ⟨_, rfl⟩
  refine q_callV (h1 := _) (rest := []) (As := [.ref (gA G 1 0)]) X (c_X7_copyFrom (l := l) hG (a1 := (h (gs6 + 1))) (a2 := (h (gs6 + 2))) (a3 := (h (gs6 + 3))) (a4 := (h (gs6 + 4))) (b1 := (h 2)) (b2 := (h 3)) (b3 := (h 4)) (b4 := (h 5)) (n1 := 8) (n2 := 6)  hT_gs6 hT_gs6_1 hT_gs6_2 hT_gs6_3 hT_gs6_4 hT_1 hT_2 hT_3 hT_4 hT_5 ((va_up_ne _ _ (ne_ty hT_gs6_1 hT_10 (by decide))).trans (rfl)) ((va_up_ne _ _ (ne_ty hT_gs6_2 hT_10 (by decide))).trans (rfl)) ((va_up_ne _ _ (ne_ty hT_gs6_3 hT_10 (by decide))).trans (rfl)) ((va_up_ne _ _ (ne_ty hT_gs6_4 hT_10 (by decide))).trans (rfl)) ((va_up_ne _ _ (by decide)).trans (rfl)) ((va_up_ne _ _ (by decide)).trans (rfl)) ((va_up_ne _ _ (by decide)).trans (rfl)) ((va_up_ne _ _ (by decide)).trans (rfl)) hn_gs6_2 (by rw [hT_3]; rfl) hn_gs6_3 (by rw [hT_4]; rfl) (by omega)) mf_X7_copyFrom mv_X7_copyFrom cf_X7 rfl (ac_1_0 hT_gs6) lk_X1_29 rfl ⟨by decide, by decide⟩ ⟨Nat.le_refl _, Nat.le_refl _⟩ rfl (Nat.le_of_ble_eq_true rfl) dX1_remember_43 (st2 := []) rfl ?_
  refine q_eq (h2 := va_up (va_up (va_up (va_up (va_up h 10 m2) (gs6 + 1) r7) (gs6 + 2) r8) (gs6 + 3) r9) (gs6 + 4) r10) (by rw [← e_r7, ← e_r8, ← e_r9, ← e_r10]) rfl ?_
  refine q_aload_n X 1 dX1_remember_46 rfl ?_
  refine q_dup X dX1_remember_47 rfl ?_
  refine q_geti (fk := 2) (x := m2 1) X cf_X1 (ac_8_0 hT_10) (by decide) fl_X1_21 rfl rfl dX1_remember_48 ((va_up_ne _ _ (ne_ty hT_10 hT_gs6_4 (by decide))).trans ((va_up_ne _ _ (ne_ty hT_10 hT_gs6_3 (by decide))).trans ((va_up_ne _ _ (ne_ty hT_10 hT_gs6_2 (by decide))).trans ((va_up_ne _ _ (ne_ty hT_10 hT_gs6_1 (by decide))).trans (va_up_self _ _ _))))) rfl ?_
  refine q_iconst (v := 1) X dX1_remember_51 (by decide) ?_
  refine q_iadd X dX1_remember_52 ?_
  obtain ⟨r11, e_r11⟩ : ∃ z : Nat → Int32, z = va_up m2 1 ((m2 1) + 1) := ⟨_, rfl⟩
  refine q_put (fk := 2) (h2 := va_up (va_up (va_up (va_up (va_up h (gs6 + 1) r7) (gs6 + 2) r8) (gs6 + 3) r9) (gs6 + 4) r10) 10 r11) X cf_X1 (ac_8_0 hT_10) (by decide) fl_X1_21 rfl rfl (by rw [hT_10]; rfl) rfl rfl rfl dX1_remember_53 ((va_up_ne _ _ (ne_ty hT_10 hT_gs6_4 (by decide))).trans ((va_up_ne _ _ (ne_ty hT_10 hT_gs6_3 (by decide))).trans ((va_up_ne _ _ (ne_ty hT_10 hT_gs6_2 (by decide))).trans ((va_up_ne _ _ (ne_ty hT_10 hT_gs6_1 (by decide))).trans (va_up_self _ _ _))))) (by rw [← e_r11]; funext x; simp only [va_up]; (repeat' split) <;> first | rfl | omega) ?_
  have E : Z = va_up (va_up (va_up (va_up (va_up h (gs6 + 1) r7) (gs6 + 2) r8) (gs6 + 3) r9) (gs6 + 4) r10) 10 r11 := by subst e_r11; subst e_r10; subst e_r9; subst e_r8; subst e_r7; subst e_gs6; subst e_m2; exact hZ.symm.trans (rfl)
  exact q_vret X hret dX1_remember_56 rfl (by rw [E])
def S_X1_restore (h : Hp) : Hp := let gs1 : Nat := 11 + 5 * (S_X1_slot (h 10) (((h 10) 1) - 1)); let r2 : Nat → Int32 := (S_X7_copyFrom (h 2) (h 3) (h 4) (h 5) (h (gs1 + 1)) (h (gs1 + 2)) (h (gs1 + 3)) (h (gs1 + 4)) 8 6).1; let r3 : Nat → Int32 := (S_X7_copyFrom (h 2) (h 3) (h 4) (h 5) (h (gs1 + 1)) (h (gs1 + 2)) (h (gs1 + 3)) (h (gs1 + 4)) 8 6).2.1; let r4 : Nat → Int32 := (S_X7_copyFrom (h 2) (h 3) (h 4) (h 5) (h (gs1 + 1)) (h (gs1 + 2)) (h (gs1 + 3)) (h (gs1 + 4)) 8 6).2.2.1; let r5 : Nat → Int32 := (S_X7_copyFrom (h 2) (h 3) (h 4) (h 5) (h (gs1 + 1)) (h (gs1 + 2)) (h (gs1 + 3)) (h (gs1 + 4)) 8 6).2.2.2; let r6 : Nat → Int32 := va_up (h 10) 1 (((h 10) 1) - 1); va_up (va_up (va_up (va_up (va_up h 2 r2) 3 r3) 4 r4) 5 r5) 10 r6
set_option maxRecDepth 100000 in
set_option maxHeartbeats 4000000 in
theorem c_X1_restore {G : Geo} {l : Launch} (hG : GOK G) {h : Hp}  (hK : KT G) : CM G l yX1_restore cX1_restore 3 none 5 144 [.ref (gA G 10 0), .ref (gA G 1 0)] h (S_X1_restore h) none := by
  obtain ⟨Z, hZ⟩ : ∃ Z, S_X1_restore h = Z := ⟨_, rfl⟩
  rw [hZ]
  refine q_enter hG mf_X1_restore (Nat.le_of_ble_eq_true rfl) ?_
  intro p e s m below meth c X hret
  have hT_0 : gT G 0 = 0 := hK 0 (by decide)
  have hT_1 : gT G 1 = 1 := hK 1 (by decide)
  have hT_2 : gT G 2 = 2 := hK 2 (by decide)
  have hT_3 : gT G 3 = 3 := hK 3 (by decide)
  have hT_4 : gT G 4 = 3 := hK 4 (by decide)
  have hT_5 : gT G 5 = 5 := hK 5 (by decide)
  have hT_6 : gT G 6 = 2 := hK 6 (by decide)
  have hT_7 : gT G 7 = 6 := hK 7 (by decide)
  have hT_8 : gT G 8 = 7 := hK 8 (by decide)
  have hT_9 : gT G 9 = 3 := hK 9 (by decide)
  have hT_10 : gT G 10 = 8 := hK 10 (by decide)
  refine q_lv (lv2 := [(0, .ref (gA G 10 0)), (1, .ref (gA G 1 0))]) rfl ?_
  refine q_aload_n X 0 dX1_restore_0 rfl ?_
  refine q_aload_n X 0 dX1_restore_1 rfl ?_
  refine q_geti (fk := 2) (x := (h 10) 1) X cf_X1 (ac_8_0 hT_10) (by decide) fl_X1_21 rfl rfl dX1_restore_2 (rfl) rfl ?_
  refine q_iconst (v := 1) X dX1_restore_5 (by decide) ?_
  refine q_isub X dX1_restore_6 ?_
  refine q_callV (h1 := _) (rest := []) (As := [.int (((h 10) 1) - 1)]) X (c_X1_slot (l := l) hG (ρ := (h 10))  (((h 10) 1) - 1) hK (rfl)) mf_X1_slot mv_X1_slot cf_X1 rfl (ac_8_0 hT_10) lk_X1_25 rfl ⟨by decide, by decide⟩ ⟨Nat.le_refl _, Nat.le_refl _⟩ rfl (Nat.le_of_ble_eq_true rfl) dX1_restore_7 (st2 := [.ref (gA G (11 + 5 * (S_X1_slot (h 10) (((h 10) 1) - 1))) 0)]) rfl ?_
  obtain ⟨gs1, e_gs1⟩ : ∃ z : Nat, z = 11 + 5 * (S_X1_slot (h 10) (((h 10) 1) - 1)) := ⟨_, rfl⟩
  rw [← e_gs1]
  obtain ⟨hgs_gs1, hT_gs1, hT_gs1_1, hT_gs1_2, hT_gs1_3, hT_gs1_4, hn_gs1_2, hn_gs1_3⟩ := slotT hK e_gs1 (fmN5 _)
  refine q_astore_n (lv' := [(2, .ref (gA G gs1 0)), (0, .ref (gA G 10 0)), (1, .ref (gA G 1 0))]) X dX1_restore_10 (by decide) rfl ?_
  refine q_aload_n X 0 dX1_restore_11 rfl ?_
  refine q_ifnull X dX1_restore_12 ?_
  refine q_aload_n X 2 dX1_restore_15 rfl ?_
  refine q_aload_n X 0 dX1_restore_16 rfl ?_
  obtain ⟨r2, e_r2⟩ : ∃ z : Nat → Int32, z = (S_X7_copyFrom (h 2) (h 3) (h 4) (h 5) (h (gs1 + 1)) (h (gs1 + 2)) (h (gs1 + 3)) (h (gs1 + 4)) 8 6).1 := ⟨_, rfl⟩
  obtain ⟨r3, e_r3⟩ : ∃ z : Nat → Int32, z = (S_X7_copyFrom (h 2) (h 3) (h 4) (h 5) (h (gs1 + 1)) (h (gs1 + 2)) (h (gs1 + 3)) (h (gs1 + 4)) 8 6).2.1 := ⟨_, rfl⟩
  obtain ⟨r4, e_r4⟩ : ∃ z : Nat → Int32, z = (S_X7_copyFrom (h 2) (h 3) (h 4) (h 5) (h (gs1 + 1)) (h (gs1 + 2)) (h (gs1 + 3)) (h (gs1 + 4)) 8 6).2.2.1 := ⟨_, rfl⟩
  obtain ⟨r5, e_r5⟩ : ∃ z : Nat → Int32, z = (S_X7_copyFrom (h 2) (h 3) (h 4) (h 5) (h (gs1 + 1)) (h (gs1 + 2)) (h (gs1 + 3)) (h (gs1 + 4)) 8 6).2.2.2 := ⟨_, rfl⟩
  refine q_callV (h1 := _) (rest := []) (As := [.ref (gA G gs1 0)]) X (c_X7_copyFrom (l := l) hG (a1 := (h 2)) (a2 := (h 3)) (a3 := (h 4)) (a4 := (h 5)) (b1 := (h (gs1 + 1))) (b2 := (h (gs1 + 2))) (b3 := (h (gs1 + 3))) (b4 := (h (gs1 + 4))) (n1 := 8) (n2 := 6)  hT_1 hT_2 hT_3 hT_4 hT_5 hT_gs1 hT_gs1_1 hT_gs1_2 hT_gs1_3 hT_gs1_4 (rfl) (rfl) (rfl) (rfl) (rfl) (rfl) (rfl) (rfl) (by rw [hT_3]; rfl) hn_gs1_2 (by rw [hT_4]; rfl) hn_gs1_3 (by omega)) mf_X7_copyFrom mv_X7_copyFrom cf_X7 rfl (ac_1_0 hT_1) lk_X1_29 rfl ⟨by decide, by decide⟩ ⟨Nat.le_refl _, Nat.le_refl _⟩ rfl (Nat.le_of_ble_eq_true rfl) dX1_restore_17 (st2 := []) rfl ?_
  refine q_eq (h2 := va_up (va_up (va_up (va_up h 2 r2) 3 r3) 4 r4) 5 r5) (by rw [e_r2, e_r3, e_r4, e_r5]) rfl ?_
  refine q_aload_n X 1 dX1_restore_20 rfl ?_
  refine q_dup X dX1_restore_21 rfl ?_
  refine q_geti (fk := 2) (x := (h 10) 1) X cf_X1 (ac_8_0 hT_10) (by decide) fl_X1_21 rfl rfl dX1_restore_22 ((va_up_ne _ _ (by decide)).trans ((va_up_ne _ _ (by decide)).trans ((va_up_ne _ _ (by decide)).trans ((va_up_ne _ _ (by decide)).trans (rfl))))) rfl ?_
  refine q_iconst (v := 1) X dX1_restore_25 (by decide) ?_
  refine q_isub X dX1_restore_26 ?_
  obtain ⟨r6, e_r6⟩ : ∃ z : Nat → Int32, z = va_up (h 10) 1 (((h 10) 1) - 1) := ⟨_, rfl⟩
  refine q_put (fk := 2) (h2 := va_up (va_up (va_up (va_up (va_up h 2 r2) 3 r3) 4 r4) 5 r5) 10 r6) X cf_X1 (ac_8_0 hT_10) (by decide) fl_X1_21 rfl rfl (by rw [hT_10]; rfl) rfl rfl rfl dX1_restore_27 ((va_up_ne _ _ (by decide)).trans ((va_up_ne _ _ (by decide)).trans ((va_up_ne _ _ (by decide)).trans ((va_up_ne _ _ (by decide)).trans (rfl))))) (by rw [e_r6]) ?_
  have E : Z = va_up (va_up (va_up (va_up (va_up h 2 r2) 3 r3) 4 r4) 5 r5) 10 r6 := by subst e_r6; subst e_r5; subst e_r4; subst e_r3; subst e_r2; subst e_gs1; exact hZ.symm.trans (rfl)
  exact q_vret X hret dX1_restore_30 rfl (by rw [E])
