def S_X5_copyFrom (ρ : Nat → Int32) (ρ2 : Nat → Int32) : (Nat → Int32) := let r1 : Nat → Int32 := va_up ρ 3 (ρ2 3); let r2 : Nat → Int32 := va_up r1 9 (ρ2 9); let r3 : Nat → Int32 := va_up r2 10 (ρ2 10); let r4 : Nat → Int32 := va_up r3 11 (ρ2 11); let r5 : Nat → Int32 := va_up r4 12 (ρ2 12); let r6 : Nat → Int32 := va_up r5 5 (ρ2 5); let r7 : Nat → Int32 := va_up r6 6 (ρ2 6); let r8 : Nat → Int32 := va_up r7 14 (ρ2 14); let r9 : Nat → Int32 := va_up r8 15 (ρ2 15); va_up r9 8 (ρ2 8)
set_option maxRecDepth 100000 in
set_option maxHeartbeats 4000000 in
theorem c_X5_copyFrom {G : Geo} {l : Launch} (hG : GOK G) {g g2 : Nat} {h : Hp} {ρ : Nat → Int32} {ρ2 : Nat → Int32} (hT_g : gT G g = 2) (hT_g2 : gT G g2 = 2) (hr_g : h g = ρ) (hr_g2 : h g2 = ρ2) (hne : g2 ≠ g) : CM G l yX5_copyFrom cX5_copyFrom 2 none 0 0 [.ref (gA G g 1), .ref (gA G g2 1)] h (va_up h g (S_X5_copyFrom ρ ρ2)) none := by
  obtain ⟨Z, hZ⟩ : ∃ Z, S_X5_copyFrom ρ ρ2 = Z := ⟨_, rfl⟩
  rw [hZ]
  refine q_enter hG mf_X5_copyFrom (Nat.le_of_ble_eq_true rfl) ?_
  intro p e s m below meth c X hret
  refine q_lv (lv2 := [(0, .ref (gA G g 1)), (1, .ref (gA G g2 1))]) rfl ?_
  refine q_aload_n X 0 dX5_copyFrom_0 rfl ?_
  refine q_aload_n X 1 dX5_copyFrom_1 rfl ?_
  refine q_geti (fk := 0) (x := ρ2 3) X cf_X5 (ac_2_1 hT_g2) (by decide) fl_X5_7 rfl rfl dX5_copyFrom_2 (hr_g2) rfl ?_
  obtain ⟨r1, e_r1⟩ : ∃ z : Nat → Int32, z = va_up ρ 3 (ρ2 3) := ⟨_, rfl⟩
  refine q_put (fk := 0) (h2 := va_up h g r1) X cf_X5 (ac_2_1 hT_g) (by decide) fl_X5_7 rfl rfl (by rw [hT_g]; rfl) rfl rfl rfl dX5_copyFrom_5 (hr_g) (by rw [e_r1]) ?_
  refine q_aload_n X 0 dX5_copyFrom_8 rfl ?_
  refine q_aload_n X 1 dX5_copyFrom_9 rfl ?_
  refine q_geti (fk := 1) (x := ρ2 9) X cf_X5 (ac_2_1 hT_g2) (by decide) fl_X5_13 rfl rfl dX5_copyFrom_10 ((va_up_ne _ _ hne).trans (hr_g2)) rfl ?_
  obtain ⟨r2, e_r2⟩ : ∃ z : Nat → Int32, z = va_up r1 9 (ρ2 9) := ⟨_, rfl⟩
  refine q_put (fk := 1) (h2 := va_up h g r2) X cf_X5 (ac_2_1 hT_g) (by decide) fl_X5_13 rfl rfl (by rw [hT_g]; rfl) rfl rfl rfl dX5_copyFrom_13 (va_up_self _ _ _) (by rw [e_r2, va_up_up]) ?_
  refine q_aload_n X 0 dX5_copyFrom_16 rfl ?_
  refine q_aload_n X 1 dX5_copyFrom_17 rfl ?_
  refine q_geti (fk := 2) (x := ρ2 10) X cf_X5 (ac_2_1 hT_g2) (by decide) fl_X5_16 rfl rfl dX5_copyFrom_18 ((va_up_ne _ _ hne).trans (hr_g2)) rfl ?_
  obtain ⟨r3, e_r3⟩ : ∃ z : Nat → Int32, z = va_up r2 10 (ρ2 10) := ⟨_, rfl⟩
  refine q_put (fk := 2) (h2 := va_up h g r3) X cf_X5 (ac_2_1 hT_g) (by decide) fl_X5_16 rfl rfl (by rw [hT_g]; rfl) rfl rfl rfl dX5_copyFrom_21 (va_up_self _ _ _) (by rw [e_r3, va_up_up]) ?_
  refine q_aload_n X 0 dX5_copyFrom_24 rfl ?_
  refine q_aload_n X 1 dX5_copyFrom_25 rfl ?_
  refine q_geti (fk := 3) (x := ρ2 11) X cf_X5 (ac_2_1 hT_g2) (by decide) fl_X5_19 rfl rfl dX5_copyFrom_26 ((va_up_ne _ _ hne).trans (hr_g2)) rfl ?_
  obtain ⟨r4, e_r4⟩ : ∃ z : Nat → Int32, z = va_up r3 11 (ρ2 11) := ⟨_, rfl⟩
  refine q_put (fk := 3) (h2 := va_up h g r4) X cf_X5 (ac_2_1 hT_g) (by decide) fl_X5_19 rfl rfl (by rw [hT_g]; rfl) rfl rfl rfl dX5_copyFrom_29 (va_up_self _ _ _) (by rw [e_r4, va_up_up]) ?_
  refine q_aload_n X 0 dX5_copyFrom_32 rfl ?_
  refine q_aload_n X 1 dX5_copyFrom_33 rfl ?_
  refine q_geti (fk := 4) (x := ρ2 12) X cf_X5 (ac_2_1 hT_g2) (by decide) fl_X5_22 rfl rfl dX5_copyFrom_34 ((va_up_ne _ _ hne).trans (hr_g2)) rfl ?_
  obtain ⟨r5, e_r5⟩ : ∃ z : Nat → Int32, z = va_up r4 12 (ρ2 12) := ⟨_, rfl⟩
  refine q_put (fk := 4) (h2 := va_up h g r5) X cf_X5 (ac_2_1 hT_g) (by decide) fl_X5_22 rfl rfl (by rw [hT_g]; rfl) rfl rfl rfl dX5_copyFrom_37 (va_up_self _ _ _) (by rw [e_r5, va_up_up]) ?_
  refine q_aload_n X 0 dX5_copyFrom_40 rfl ?_
  refine q_aload_n X 1 dX5_copyFrom_41 rfl ?_
  refine q_geti (fk := 5) (x := ρ2 5) X cf_X5 (ac_2_1 hT_g2) (by decide) fl_X5_25 rfl rfl dX5_copyFrom_42 ((va_up_ne _ _ hne).trans (hr_g2)) rfl ?_
  obtain ⟨r6, e_r6⟩ : ∃ z : Nat → Int32, z = va_up r5 5 (ρ2 5) := ⟨_, rfl⟩
  refine q_put (fk := 5) (h2 := va_up h g r6) X cf_X5 (ac_2_1 hT_g) (by decide) fl_X5_25 rfl rfl (by rw [hT_g]; rfl) rfl rfl rfl dX5_copyFrom_45 (va_up_self _ _ _) (by rw [e_r6, va_up_up]) ?_
  refine q_aload_n X 0 dX5_copyFrom_48 rfl ?_
  refine q_aload_n X 1 dX5_copyFrom_49 rfl ?_
  refine q_geti (fk := 6) (x := ρ2 6) X cf_X5 (ac_2_1 hT_g2) (by decide) fl_X5_28 rfl rfl dX5_copyFrom_50 ((va_up_ne _ _ hne).trans (hr_g2)) rfl ?_
  obtain ⟨r7, e_r7⟩ : ∃ z : Nat → Int32, z = va_up r6 6 (ρ2 6) := ⟨_, rfl⟩
  refine q_put (fk := 6) (h2 := va_up h g r7) X cf_X5 (ac_2_1 hT_g) (by decide) fl_X5_28 rfl rfl (by rw [hT_g]; rfl) rfl rfl rfl dX5_copyFrom_53 (va_up_self _ _ _) (by rw [e_r7, va_up_up]) ?_
  refine q_aload_n X 0 dX5_copyFrom_56 rfl ?_
  refine q_aload_n X 1 dX5_copyFrom_57 rfl ?_
  refine q_geti (fk := 7) (x := ρ2 14) X cf_X5 (ac_2_1 hT_g2) (by decide) fl_X5_31 rfl rfl dX5_copyFrom_58 ((va_up_ne _ _ hne).trans (hr_g2)) rfl ?_
  obtain ⟨r8, e_r8⟩ : ∃ z : Nat → Int32, z = va_up r7 14 (ρ2 14) := ⟨_, rfl⟩
  refine q_put (fk := 7) (h2 := va_up h g r8) X cf_X5 (ac_2_1 hT_g) (by decide) fl_X5_31 rfl rfl (by rw [hT_g]; rfl) rfl rfl rfl dX5_copyFrom_61 (va_up_self _ _ _) (by rw [e_r8, va_up_up]) ?_
  refine q_aload_n X 0 dX5_copyFrom_64 rfl ?_
  refine q_aload_n X 1 dX5_copyFrom_65 rfl ?_
  refine q_geti (fk := 8) (x := ρ2 15) X cf_X5 (ac_2_1 hT_g2) (by decide) fl_X5_34 rfl rfl dX5_copyFrom_66 ((va_up_ne _ _ hne).trans (hr_g2)) rfl ?_
  obtain ⟨r9, e_r9⟩ : ∃ z : Nat → Int32, z = va_up r8 15 (ρ2 15) := ⟨_, rfl⟩
  refine q_put (fk := 8) (h2 := va_up h g r9) X cf_X5 (ac_2_1 hT_g) (by decide) fl_X5_34 rfl rfl (by rw [hT_g]; rfl) rfl rfl rfl dX5_copyFrom_69 (va_up_self _ _ _) (by rw [e_r9, va_up_up]) ?_
  refine q_aload_n X 0 dX5_copyFrom_72 rfl ?_
  refine q_aload_n X 1 dX5_copyFrom_73 rfl ?_
  refine q_geti (fk := 9) (x := ρ2 8) X cf_X5 (ac_2_1 hT_g2) (by decide) fl_X5_37 rfl rfl dX5_copyFrom_74 ((va_up_ne _ _ hne).trans (hr_g2)) rfl ?_
  obtain ⟨r10, e_r10⟩ : ∃ z : Nat → Int32, z = va_up r9 8 (ρ2 8) := ⟨_, rfl⟩
  refine q_put (fk := 9) (h2 := va_up h g r10) X cf_X5 (ac_2_1 hT_g) (by decide) fl_X5_37 rfl rfl (by rw [hT_g]; rfl) rfl rfl rfl dX5_copyFrom_77 (va_up_self _ _ _) (by rw [e_r10, va_up_up]) ?_
  have E : Z = r10 := by subst e_r10; subst e_r9; subst e_r8; subst e_r7; subst e_r6; subst e_r5; subst e_r4; subst e_r3; subst e_r2; subst e_r1; exact hZ.symm.trans (rfl)
  exact q_vret X hret dX5_copyFrom_80 rfl (by rw [E])
def S_X0_copyFrom (ρ : Nat → Int32) (ρ2 : Nat → Int32) : (Nat → Int32) := let r1 : Nat → Int32 := va_up ρ 16 (ρ2 16); let r2 : Nat → Int32 := va_up r1 17 (ρ2 17); let r3 : Nat → Int32 := va_up r2 18 (ρ2 18); let r4 : Nat → Int32 := va_up r3 19 (ρ2 19); let r5 : Nat → Int32 := va_up r4 20 (ρ2 20); let r6 : Nat → Int32 := S_copy ρ2 r5 26 1 6; let r7 : Nat → Int32 := va_up r6 23 (ρ2 23); let r8 : Nat → Int32 := va_up r7 24 (ρ2 24); va_up r8 25 (ρ2 25)
set_option maxRecDepth 100000 in
set_option maxHeartbeats 4000000 in
theorem c_X0_copyFrom {G : Geo} {l : Launch} (hG : GOK G) {g g2 : Nat} {h : Hp} {ρ : Nat → Int32} {ρ2 : Nat → Int32} (hT_g : gT G g = 2) (hT_g2 : gT G g2 = 2) (hr_g : h g = ρ) (hr_g2 : h g2 = ρ2) (hne : g2 ≠ g) : CM G l yX0_copyFrom cX0_copyFrom 2 none 2 81 [.ref (gA G g 2), .ref (gA G g2 2)] h (va_up h g (S_X0_copyFrom ρ ρ2)) none := by
  obtain ⟨Z, hZ⟩ : ∃ Z, S_X0_copyFrom ρ ρ2 = Z := ⟨_, rfl⟩
  rw [hZ]
  refine q_enter hG mf_X0_copyFrom (Nat.le_of_ble_eq_true rfl) ?_
  intro p e s m below meth c X hret
  refine q_lv (lv2 := [(0, .ref (gA G g 2)), (1, .ref (gA G g2 2))]) rfl ?_
  refine q_aload_n X 0 dX0_copyFrom_0 rfl ?_
  refine q_aload_n X 1 dX0_copyFrom_1 rfl ?_
  refine q_geti (fk := 0) (x := ρ2 16) X cf_X0 (ac_2_2 hT_g2) (by decide) fl_X0_9 rfl rfl dX0_copyFrom_2 (hr_g2) rfl ?_
  obtain ⟨r1, e_r1⟩ : ∃ z : Nat → Int32, z = va_up ρ 16 (ρ2 16) := ⟨_, rfl⟩
  refine q_put (fk := 0) (h2 := va_up h g r1) X cf_X0 (ac_2_2 hT_g) (by decide) fl_X0_9 rfl rfl (by rw [hT_g]; rfl) rfl rfl rfl dX0_copyFrom_5 (hr_g) (by rw [e_r1]) ?_
  refine q_aload_n X 0 dX0_copyFrom_8 rfl ?_
  refine q_aload_n X 1 dX0_copyFrom_9 rfl ?_
  refine q_geti (fk := 1) (x := ρ2 17) X cf_X0 (ac_2_2 hT_g2) (by decide) fl_X0_15 rfl rfl dX0_copyFrom_10 ((va_up_ne _ _ hne).trans (hr_g2)) rfl ?_
  obtain ⟨r2, e_r2⟩ : ∃ z : Nat → Int32, z = va_up r1 17 (ρ2 17) := ⟨_, rfl⟩
  refine q_put (fk := 1) (h2 := va_up h g r2) X cf_X0 (ac_2_2 hT_g) (by decide) fl_X0_15 rfl rfl (by rw [hT_g]; rfl) rfl rfl rfl dX0_copyFrom_13 (va_up_self _ _ _) (by rw [e_r2, va_up_up]) ?_
  refine q_aload_n X 0 dX0_copyFrom_16 rfl ?_
  refine q_aload_n X 1 dX0_copyFrom_17 rfl ?_
  refine q_geti (fk := 2) (x := ρ2 18) X cf_X0 (ac_2_2 hT_g2) (by decide) fl_X0_18 rfl rfl dX0_copyFrom_18 ((va_up_ne _ _ hne).trans (hr_g2)) rfl ?_
  obtain ⟨r3, e_r3⟩ : ∃ z : Nat → Int32, z = va_up r2 18 (ρ2 18) := ⟨_, rfl⟩
  refine q_put (fk := 2) (h2 := va_up h g r3) X cf_X0 (ac_2_2 hT_g) (by decide) fl_X0_18 rfl rfl (by rw [hT_g]; rfl) rfl rfl rfl dX0_copyFrom_21 (va_up_self _ _ _) (by rw [e_r3, va_up_up]) ?_
  refine q_aload_n X 0 dX0_copyFrom_24 rfl ?_
  refine q_aload_n X 1 dX0_copyFrom_25 rfl ?_
  refine q_geti (fk := 3) (x := ρ2 19) X cf_X0 (ac_2_2 hT_g2) (by decide) fl_X0_21 rfl rfl dX0_copyFrom_26 ((va_up_ne _ _ hne).trans (hr_g2)) rfl ?_
  obtain ⟨r4, e_r4⟩ : ∃ z : Nat → Int32, z = va_up r3 19 (ρ2 19) := ⟨_, rfl⟩
  refine q_put (fk := 3) (h2 := va_up h g r4) X cf_X0 (ac_2_2 hT_g) (by decide) fl_X0_21 rfl rfl (by rw [hT_g]; rfl) rfl rfl rfl dX0_copyFrom_29 (va_up_self _ _ _) (by rw [e_r4, va_up_up]) ?_
  refine q_aload_n X 0 dX0_copyFrom_32 rfl ?_
  refine q_aload_n X 1 dX0_copyFrom_33 rfl ?_
  refine q_geti (fk := 4) (x := ρ2 20) X cf_X0 (ac_2_2 hT_g2) (by decide) fl_X0_24 rfl rfl dX0_copyFrom_34 ((va_up_ne _ _ hne).trans (hr_g2)) rfl ?_
  obtain ⟨r5, e_r5⟩ : ∃ z : Nat → Int32, z = va_up r4 20 (ρ2 20) := ⟨_, rfl⟩
  refine q_put (fk := 4) (h2 := va_up h g r5) X cf_X0 (ac_2_2 hT_g) (by decide) fl_X0_24 rfl rfl (by rw [hT_g]; rfl) rfl rfl rfl dX0_copyFrom_37 (va_up_self _ _ _) (by rw [e_r5, va_up_up]) ?_
  refine q_aload_n X 1 dX0_copyFrom_40 rfl ?_
  refine q_get (fk := 5) (v := .ref (gA G g2 3)) X cf_X0 (ac_2_2 hT_g2) (by decide) fl_X0_27 rfl rfl dX0_copyFrom_41 rfl ?_
  refine q_aload_n X 0 dX0_copyFrom_44 rfl ?_
  refine q_get (fk := 5) (v := .ref (gA G g 3)) X cf_X0 (ac_2_2 hT_g) (by decide) fl_X0_27 rfl rfl dX0_copyFrom_45 rfl ?_
  obtain ⟨r6, e_r6⟩ : ∃ z : Nat → Int32, z = S_copy ρ2 r5 26 1 6 := ⟨_, rfl⟩
  refine q_callSN (h1 := _) (rest := []) (As := [.ref (gA G g2 3), .ref (gA G g 3)]) X (c_X9_copyRow (l := l) hG (n := 6) (frm := ρ2) (row := r5) (ac_2_3 hT_g2) (ac_2_3 hT_g) ((va_up_ne _ _ hne).trans (hr_g2)) (va_up_self _ _ _) (by rw [hT_g2]; rfl) (by rw [hT_g]; rfl)) mf_X9_copyRow ms_X9_copyRow ln_X0_41 rfl ⟨by decide, by decide⟩ ⟨Nat.le_refl _, Nat.le_refl _⟩ rfl (Nat.le_of_ble_eq_true rfl) dX0_copyFrom_48 (st2 := []) rfl ?_
  refine q_eq (h2 := va_up h g r6) (by rw [e_r6]; exact va_up_up _ _ _ _) rfl ?_
  refine q_aload_n X 0 dX0_copyFrom_51 rfl ?_
  refine q_aload_n X 1 dX0_copyFrom_52 rfl ?_
  refine q_geti (fk := 6) (x := ρ2 23) X cf_X0 (ac_2_2 hT_g2) (by decide) fl_X0_32 rfl rfl dX0_copyFrom_53 ((va_up_ne _ _ hne).trans (hr_g2)) rfl ?_
  obtain ⟨r7, e_r7⟩ : ∃ z : Nat → Int32, z = va_up r6 23 (ρ2 23) := ⟨_, rfl⟩
  refine q_put (fk := 6) (h2 := va_up h g r7) X cf_X0 (ac_2_2 hT_g) (by decide) fl_X0_32 rfl rfl (by rw [hT_g]; rfl) rfl rfl rfl dX0_copyFrom_56 (va_up_self _ _ _) (by rw [e_r7, va_up_up]) ?_
  refine q_aload_n X 0 dX0_copyFrom_59 rfl ?_
  refine q_aload_n X 1 dX0_copyFrom_60 rfl ?_
  refine q_geti (fk := 7) (x := ρ2 24) X cf_X0 (ac_2_2 hT_g2) (by decide) fl_X0_35 rfl rfl dX0_copyFrom_61 ((va_up_ne _ _ hne).trans (hr_g2)) rfl ?_
  obtain ⟨r8, e_r8⟩ : ∃ z : Nat → Int32, z = va_up r7 24 (ρ2 24) := ⟨_, rfl⟩
  refine q_put (fk := 7) (h2 := va_up h g r8) X cf_X0 (ac_2_2 hT_g) (by decide) fl_X0_35 rfl rfl (by rw [hT_g]; rfl) rfl rfl rfl dX0_copyFrom_64 (va_up_self _ _ _) (by rw [e_r8, va_up_up]) ?_
  refine q_aload_n X 0 dX0_copyFrom_67 rfl ?_
  refine q_aload_n X 1 dX0_copyFrom_68 rfl ?_
  refine q_geti (fk := 8) (x := ρ2 25) X cf_X0 (ac_2_2 hT_g2) (by decide) fl_X0_38 rfl rfl dX0_copyFrom_69 ((va_up_ne _ _ hne).trans (hr_g2)) rfl ?_
  obtain ⟨r9, e_r9⟩ : ∃ z : Nat → Int32, z = va_up r8 25 (ρ2 25) := ⟨_, rfl⟩
  refine q_put (fk := 8) (h2 := va_up h g r9) X cf_X0 (ac_2_2 hT_g) (by decide) fl_X0_38 rfl rfl (by rw [hT_g]; rfl) rfl rfl rfl dX0_copyFrom_72 (va_up_self _ _ _) (by rw [e_r9, va_up_up]) ?_
  have E : Z = r9 := by subst e_r9; subst e_r8; subst e_r7; subst e_r6; subst e_r5; subst e_r4; subst e_r3; subst e_r2; subst e_r1; exact hZ.symm.trans (rfl)
  exact q_vret X hret dX0_copyFrom_75 rfl (by rw [E])
def L_X0_start_27 (fu : Nat) (ρ : Nat → Int32) (ma : Int32) (am : Int32) (k : Int32) (ρ1 : Nat → Int32) : (Nat → Int32) := match fu with
  | 0 => (fun _ => 0)
  | fu + 1 => if 6 ≤ k then (let r7 : Nat → Int32 := va_up ρ1 23 (-100009); let r8 : Nat → Int32 := va_up r7 24 (-100009); va_up r8 25 am) else (let r10 : Nat → Int32 := S_put ρ1 26 1 6 k 0; L_X0_start_27 fu ρ ma am (k + 1) r10)
def S_X0_start (ρ : Nat → Int32) (ma : Int32) (am : Int32) : (Nat → Int32) := let r1 : Nat → Int32 := va_up ρ 16 am; let r2 : Nat → Int32 := va_up r1 17 ma; let r3 : Nat → Int32 := va_up r2 18 0; let r4 : Nat → Int32 := va_up r3 19 0; let r5 : Nat → Int32 := va_up r4 20 0; L_X0_start_27 7 ρ ma am 0 r5
set_option maxRecDepth 100000 in
set_option maxHeartbeats 4000000 in
theorem w_X0_start_27 {G : Geo} {p : Program} {l : Launch} {e : Env} {s : State} {m : MethodId} {args : Array Value} {below : List Frame} {meth : Method} {c : Code} {h : Hp} {g : Nat} {ρ : Nat → Int32} {ma : Int32} {am : Int32} (X : CX G (AA G) p s m meth c RX0 cX0_start 4) (hret : meth.sig.returnType = none) (hT_g : gT G g = 2) (hr_g : h g = ρ) (Z : (Nat → Int32)) : ∀ (fu : Nat) (k : Int32) (ρ1 : Nat → Int32), ((6 : Int32).toInt - k.toInt).toNat < fu → L_X0_start_27 fu ρ ma am k ρ1 = Z → VV G (AA G) p l e { frames := 1, cells := 0, slots := 0, locals := 22 } s m args below meth c 0 0 (MQ below (QC G (va_up h g Z) none) args s 0 0 (AA G)) 4 (va_up h g ρ1) 27 [(0, .ref (gA G g 2)), (1, .int ma), (2, .int am), (3, .int k)] [] := by
  intro fu
  induction fu with
  | zero =>
    intro k ρ1  hm
    exact absurd hm (Nat.not_lt_zero _)
  | succ fu ih =>
    intro k ρ1  hm hZ
    have hG := X.2.2.2.2.2.1
    refine q_iload_n X 3 dX0_start_27 rfl ?_
    refine q_bipush (v := 6) X dX0_start_28 (by decide) ?_
    refine q_icmp_ge (tgt := 48) X dX0_start_30 (by decide) (fun c6 => ?_) (fun c6 => ?_)
    · skip
      refine q_aload_n X 0 dX0_start_48 rfl ?_
      refine q_ldc X kc_X0_31 dX0_start_49 ?_
      obtain ⟨r7, e_r7⟩ : ∃ z : Nat → Int32, z = va_up ρ1 23 (-100009) := ⟨_, rfl⟩
      refine q_put (fk := 6) (h2 := va_up h g r7) X cf_X0 (ac_2_2 hT_g) (by decide) fl_X0_32 rfl rfl (by rw [hT_g]; rfl) rfl rfl rfl dX0_start_51 (va_up_self _ _ _) (by rw [e_r7, va_up_up]) ?_
      refine q_aload_n X 0 dX0_start_54 rfl ?_
      refine q_ldc X kc_X0_31 dX0_start_55 ?_
      obtain ⟨r8, e_r8⟩ : ∃ z : Nat → Int32, z = va_up r7 24 (-100009) := ⟨_, rfl⟩
      refine q_put (fk := 7) (h2 := va_up h g r8) X cf_X0 (ac_2_2 hT_g) (by decide) fl_X0_35 rfl rfl (by rw [hT_g]; rfl) rfl rfl rfl dX0_start_57 (va_up_self _ _ _) (by rw [e_r8, va_up_up]) ?_
      refine q_aload_n X 0 dX0_start_60 rfl ?_
      refine q_iload_n X 2 dX0_start_61 rfl ?_
      obtain ⟨r9, e_r9⟩ : ∃ z : Nat → Int32, z = va_up r8 25 am := ⟨_, rfl⟩
      refine q_put (fk := 8) (h2 := va_up h g r9) X cf_X0 (ac_2_2 hT_g) (by decide) fl_X0_38 rfl rfl (by rw [hT_g]; rfl) rfl rfl rfl dX0_start_62 (va_up_self _ _ _) (by rw [e_r9, va_up_up]) ?_
      have E : Z = r9 := by subst e_r9; subst e_r8; subst e_r7; exact hZ.symm.trans ((if_pos c6).trans rfl)
      exact q_vret X hret dX0_start_65 rfl (by rw [E])
    · skip
      refine q_aload_n X 0 dX0_start_33 rfl ?_
      refine q_get (fk := 5) (v := .ref (gA G g 3)) X cf_X0 (ac_2_2 hT_g) (by decide) fl_X0_27 rfl rfl dX0_start_34 rfl ?_
      refine q_iload_n X 3 dX0_start_37 rfl ?_
      refine q_iconst (v := 0) X dX0_start_38 (by decide) ?_
      obtain ⟨r10, e_r10⟩ : ∃ z : Nat → Int32, z = S_put ρ1 26 1 6 k 0 := ⟨_, rfl⟩
      refine q_callSN (h1 := _) (rest := []) (As := [.ref (gA G g 3), .int k, .int 0]) X (c_X9_put (l := l) hG (n := 6) (row := ρ1) k 0 (ac_2_3 hT_g) (va_up_self _ _ _) (by rw [hT_g]; rfl)) mf_X9_put ms_X9_put ln_X0_45 rfl ⟨by decide, by decide⟩ ⟨Nat.le_refl _, Nat.le_refl _⟩ rfl (Nat.le_of_ble_eq_true rfl) dX0_start_39 (st2 := []) rfl ?_
      refine q_eq (h2 := va_up h g r10) (by rw [e_r10]; exact va_up_up _ _ _ _) rfl ?_
      refine q_iinc (v := k + 1) (lv' := [(3, .int (k + 1)), (0, .ref (gA G g 2)), (1, .int ma), (2, .int am)]) X 3 dX0_start_42 rfl rfl (by decide) rfl ?_
      refine q_goto (tgt := 27) X dX0_start_45 (by decide) ?_
      refine q_sub (lv2 := [(0, .ref (gA G g 2)), (1, .int ma), (2, .int am), (3, .int (k + 1))]) [1, 2, 3, 0] rfl ?_
      have E : L_X0_start_27 fu ρ ma am (k + 1) r10 = Z := Eq.trans (Eq.symm (by subst e_r10; exact (if_neg c6).trans rfl)) hZ
      exact ih (k + 1) r10  (by subst e_r10; exact ms_up c6 hm) E
set_option maxRecDepth 100000 in
set_option maxHeartbeats 4000000 in
theorem c_X0_start {G : Geo} {l : Launch} (hG : GOK G) {g : Nat} {h : Hp} {ρ : Nat → Int32} (ma : Int32) (am : Int32) (hT_g : gT G g = 2) (hr_g : h g = ρ) : CM G l yX0_start cX0_start 4 none 1 22 [.ref (gA G g 2), .int ma, .int am] h (va_up h g (S_X0_start ρ ma am)) none := by
  obtain ⟨Z, hZ⟩ : ∃ Z, S_X0_start ρ ma am = Z := ⟨_, rfl⟩
  rw [hZ]
  refine q_enter hG mf_X0_start (Nat.le_of_ble_eq_true rfl) ?_
  intro p e s m below meth c X hret
  refine q_lv (lv2 := [(0, .ref (gA G g 2)), (1, .int ma), (2, .int am)]) rfl ?_
  refine q_aload_n X 0 dX0_start_0 rfl ?_
  refine q_iload_n X 2 dX0_start_1 rfl ?_
  obtain ⟨r1, e_r1⟩ : ∃ z : Nat → Int32, z = va_up ρ 16 am := ⟨_, rfl⟩
  refine q_put (fk := 0) (h2 := va_up h g r1) X cf_X0 (ac_2_2 hT_g) (by decide) fl_X0_9 rfl rfl (by rw [hT_g]; rfl) rfl rfl rfl dX0_start_2 (hr_g) (by rw [e_r1]) ?_
  refine q_aload_n X 0 dX0_start_5 rfl ?_
  refine q_iload_n X 1 dX0_start_6 rfl ?_
  obtain ⟨r2, e_r2⟩ : ∃ z : Nat → Int32, z = va_up r1 17 ma := ⟨_, rfl⟩
  refine q_put (fk := 1) (h2 := va_up h g r2) X cf_X0 (ac_2_2 hT_g) (by decide) fl_X0_15 rfl rfl (by rw [hT_g]; rfl) rfl rfl rfl dX0_start_7 (va_up_self _ _ _) (by rw [e_r2, va_up_up]) ?_
  refine q_aload_n X 0 dX0_start_10 rfl ?_
  refine q_iconst (v := 0) X dX0_start_11 (by decide) ?_
  obtain ⟨r3, e_r3⟩ : ∃ z : Nat → Int32, z = va_up r2 18 0 := ⟨_, rfl⟩
  refine q_put (fk := 2) (h2 := va_up h g r3) X cf_X0 (ac_2_2 hT_g) (by decide) fl_X0_18 rfl rfl (by rw [hT_g]; rfl) rfl rfl rfl dX0_start_12 (va_up_self _ _ _) (by rw [e_r3, va_up_up]) ?_
  refine q_aload_n X 0 dX0_start_15 rfl ?_
  refine q_iconst (v := 0) X dX0_start_16 (by decide) ?_
  obtain ⟨r4, e_r4⟩ : ∃ z : Nat → Int32, z = va_up r3 19 0 := ⟨_, rfl⟩
  refine q_put (fk := 3) (h2 := va_up h g r4) X cf_X0 (ac_2_2 hT_g) (by decide) fl_X0_21 rfl rfl (by rw [hT_g]; rfl) rfl rfl rfl dX0_start_17 (va_up_self _ _ _) (by rw [e_r4, va_up_up]) ?_
  refine q_aload_n X 0 dX0_start_20 rfl ?_
  refine q_iconst (v := 0) X dX0_start_21 (by decide) ?_
  obtain ⟨r5, e_r5⟩ : ∃ z : Nat → Int32, z = va_up r4 20 0 := ⟨_, rfl⟩
  refine q_put (fk := 4) (h2 := va_up h g r5) X cf_X0 (ac_2_2 hT_g) (by decide) fl_X0_24 rfl rfl (by rw [hT_g]; rfl) rfl rfl rfl dX0_start_22 (va_up_self _ _ _) (by rw [e_r5, va_up_up]) ?_
  refine q_iconst (v := 0) X dX0_start_25 (by decide) ?_
  refine q_istore_n (lv' := [(3, .int 0), (0, .ref (gA G g 2)), (1, .int ma), (2, .int am)]) X dX0_start_26 (by decide) rfl ?_
  refine q_sub (lv2 := [(0, .ref (gA G g 2)), (1, .int ma), (2, .int am), (3, .int 0)]) [1, 2, 3, 0] rfl ?_
  have E : L_X0_start_27 7 ρ ma am 0 r5 = Z := Eq.trans (Eq.symm (by subst e_r5; subst e_r4; subst e_r3; subst e_r2; subst e_r1; exact rfl)) hZ
  exact w_X0_start_27 X hret hT_g hr_g Z 7 0 r5  (by subst e_r5; subst e_r4; subst e_r3; subst e_r2; subst e_r1; decide) E
def S_X0_roast (ρ : Nat → Int32) (dr : Int32) : (Nat → Int32) := let r1 : Nat → Int32 := va_up ρ 16 ((ρ 16) + (S_J9_floorDiv_7cf53 (dr - (ρ 16)) 20)); va_up r1 25 (S_J9_max_7cf53 (r1 25) (r1 16))
set_option maxRecDepth 100000 in
set_option maxHeartbeats 4000000 in
theorem c_X0_roast {G : Geo} {l : Launch} (hG : GOK G) {g : Nat} {h : Hp} {ρ : Nat → Int32} (dr : Int32) (hT_g : gT G g = 2) (hr_g : h g = ρ) : CM G l yX0_roast cX0_roast 2 none 1 22 [.ref (gA G g 2), .int dr] h (va_up h g (S_X0_roast ρ dr)) none := by
  obtain ⟨Z, hZ⟩ : ∃ Z, S_X0_roast ρ dr = Z := ⟨_, rfl⟩
  rw [hZ]
  refine q_enter hG mf_X0_roast (Nat.le_of_ble_eq_true rfl) ?_
  intro p e s m below meth c X hret
  refine q_lv (lv2 := [(0, .ref (gA G g 2)), (1, .int dr)]) rfl ?_
  refine q_aload_n X 0 dX0_roast_0 rfl ?_
  refine q_dup X dX0_roast_1 rfl ?_
  refine q_geti (fk := 0) (x := ρ 16) X cf_X0 (ac_2_2 hT_g) (by decide) fl_X0_9 rfl rfl dX0_roast_2 (hr_g) rfl ?_
  refine q_iload_n X 1 dX0_roast_5 rfl ?_
  refine q_aload_n X 0 dX0_roast_6 rfl ?_
  refine q_geti (fk := 0) (x := ρ 16) X cf_X0 (ac_2_2 hT_g) (by decide) fl_X0_9 rfl rfl dX0_roast_7 (hr_g) rfl ?_
  refine q_isub X dX0_roast_10 ?_
  refine q_bipush (v := 20) X dX0_roast_11 (by decide) ?_
  refine q_callS (h1 := _) (rest := [.int (ρ 16), .ref (gA G g 2)]) (As := [.int (dr - (ρ 16)), .int 20]) X (c_J9_floorDiv_7cf53 (l := l) hG   (dr - (ρ 16)) 20 (by decide)) mf_J9_floorDiv_7cf53 ms_J9_floorDiv_7cf53 lk_X0_49 rfl ⟨by decide, by decide⟩ ⟨Nat.le_refl _, Nat.le_refl _⟩ rfl (Nat.le_of_ble_eq_true rfl) dX0_roast_13 (st2 := [.int (S_J9_floorDiv_7cf53 (dr - (ρ 16)) 20), .int (ρ 16), .ref (gA G g 2)]) rfl ?_
  refine q_iadd X dX0_roast_16 ?_
  obtain ⟨r1, e_r1⟩ : ∃ z : Nat → Int32, z = va_up ρ 16 ((ρ 16) + (S_J9_floorDiv_7cf53 (dr - (ρ 16)) 20)) := ⟨_, rfl⟩
  refine q_put (fk := 0) (h2 := va_up h g r1) X cf_X0 (ac_2_2 hT_g) (by decide) fl_X0_9 rfl rfl (by rw [hT_g]; rfl) rfl rfl rfl dX0_roast_17 (hr_g) (by rw [e_r1]) ?_
  refine q_aload_n X 0 dX0_roast_20 rfl ?_
  refine q_aload_n X 0 dX0_roast_21 rfl ?_
  refine q_geti (fk := 8) (x := r1 25) X cf_X0 (ac_2_2 hT_g) (by decide) fl_X0_38 rfl rfl dX0_roast_22 (va_up_self _ _ _) rfl ?_
  refine q_aload_n X 0 dX0_roast_25 rfl ?_
  refine q_geti (fk := 0) (x := r1 16) X cf_X0 (ac_2_2 hT_g) (by decide) fl_X0_9 rfl rfl dX0_roast_26 (va_up_self _ _ _) rfl ?_
  refine q_callS (h1 := _) (rest := [.ref (gA G g 2)]) (As := [.int (r1 25), .int (r1 16)]) X (c_J9_max_7cf53 (l := l) hG   (r1 25) (r1 16) ) mf_J9_max_7cf53 ms_J9_max_7cf53 lk_X0_55 rfl ⟨by decide, by decide⟩ ⟨Nat.le_refl _, Nat.le_refl _⟩ rfl (Nat.le_of_ble_eq_true rfl) dX0_roast_29 (st2 := [.int (S_J9_max_7cf53 (r1 25) (r1 16)), .ref (gA G g 2)]) rfl ?_
  obtain ⟨r2, e_r2⟩ : ∃ z : Nat → Int32, z = va_up r1 25 (S_J9_max_7cf53 (r1 25) (r1 16)) := ⟨_, rfl⟩
  refine q_put (fk := 8) (h2 := va_up h g r2) X cf_X0 (ac_2_2 hT_g) (by decide) fl_X0_38 rfl rfl (by rw [hT_g]; rfl) rfl rfl rfl dX0_roast_32 (va_up_self _ _ _) (by rw [e_r2, va_up_up]) ?_
  have E : Z = r2 := by subst e_r2; subst e_r1; exact hZ.symm.trans (rfl)
  exact q_vret X hret dX0_roast_35 rfl (by rw [E])
def S_X0_cool (ρ : Nat → Int32) (am : Int32) (fa : Int32) : (Nat → Int32) := va_up ρ 16 ((ρ 16) - (S_J9_floorDiv_7cf53 (((ρ 16) - am) * fa) 100))
set_option maxRecDepth 100000 in
set_option maxHeartbeats 4000000 in
theorem c_X0_cool {G : Geo} {l : Launch} (hG : GOK G) {g : Nat} {h : Hp} {ρ : Nat → Int32} (am : Int32) (fa : Int32) (hT_g : gT G g = 2) (hr_g : h g = ρ) : CM G l yX0_cool cX0_cool 3 none 1 22 [.ref (gA G g 2), .int am, .int fa] h (va_up h g (S_X0_cool ρ am fa)) none := by
  obtain ⟨Z, hZ⟩ : ∃ Z, S_X0_cool ρ am fa = Z := ⟨_, rfl⟩
  rw [hZ]
  refine q_enter hG mf_X0_cool (Nat.le_of_ble_eq_true rfl) ?_
  intro p e s m below meth c X hret
  refine q_lv (lv2 := [(0, .ref (gA G g 2)), (1, .int am), (2, .int fa)]) rfl ?_
  refine q_aload_n X 0 dX0_cool_0 rfl ?_
  refine q_dup X dX0_cool_1 rfl ?_
  refine q_geti (fk := 0) (x := ρ 16) X cf_X0 (ac_2_2 hT_g) (by decide) fl_X0_9 rfl rfl dX0_cool_2 (hr_g) rfl ?_
  refine q_aload_n X 0 dX0_cool_5 rfl ?_
  refine q_geti (fk := 0) (x := ρ 16) X cf_X0 (ac_2_2 hT_g) (by decide) fl_X0_9 rfl rfl dX0_cool_6 (hr_g) rfl ?_
  refine q_iload_n X 1 dX0_cool_9 rfl ?_
  refine q_isub X dX0_cool_10 ?_
  refine q_iload_n X 2 dX0_cool_11 rfl ?_
  refine q_imul X dX0_cool_12 ?_
  refine q_bipush (v := 100) X dX0_cool_13 (by decide) ?_
  refine q_callS (h1 := _) (rest := [.int (ρ 16), .ref (gA G g 2)]) (As := [.int (((ρ 16) - am) * fa), .int 100]) X (c_J9_floorDiv_7cf53 (l := l) hG   (((ρ 16) - am) * fa) 100 (by decide)) mf_J9_floorDiv_7cf53 ms_J9_floorDiv_7cf53 lk_X0_49 rfl ⟨by decide, by decide⟩ ⟨Nat.le_refl _, Nat.le_refl _⟩ rfl (Nat.le_of_ble_eq_true rfl) dX0_cool_15 (st2 := [.int (S_J9_floorDiv_7cf53 (((ρ 16) - am) * fa) 100), .int (ρ 16), .ref (gA G g 2)]) rfl ?_
  refine q_isub X dX0_cool_18 ?_
  obtain ⟨r1, e_r1⟩ : ∃ z : Nat → Int32, z = va_up ρ 16 ((ρ 16) - (S_J9_floorDiv_7cf53 (((ρ 16) - am) * fa) 100)) := ⟨_, rfl⟩
  refine q_put (fk := 0) (h2 := va_up h g r1) X cf_X0 (ac_2_2 hT_g) (by decide) fl_X0_9 rfl rfl (by rw [hT_g]; rfl) rfl rfl rfl dX0_cool_19 (hr_g) (by rw [e_r1]) ?_
  have E : Z = r1 := by subst e_r1; exact hZ.symm.trans (rfl)
  exact q_vret X hret dX0_cool_22 rfl (by rw [E])
def S_X0_pop (ρ : Nat → Int32) (ct : Int32) : (Nat → Int32) := let m2 : Int32 := if (ρ 16) < ct then (0) else (S_J9_min_7cf53 ((S_J9_floorDiv_7cf53 ((ρ 16) - ct) 2) + 1) (1000 - (ρ 20))); let r4 : Nat → Int32 := S_put ρ 26 1 6 (S_J9_floorMod_7cf53 (ρ 18) 6) m2; va_up r4 20 ((r4 20) + m2)
set_option maxRecDepth 100000 in
set_option maxHeartbeats 4000000 in
theorem c_X0_pop {G : Geo} {l : Launch} (hG : GOK G) {g : Nat} {h : Hp} {ρ : Nat → Int32} (ct : Int32) (hT_g : gT G g = 2) (hr_g : h g = ρ) : CM G l yX0_pop cX0_pop 4 none 1 22 [.ref (gA G g 2), .int ct] h (va_up h g (S_X0_pop ρ ct)) none := by
  obtain ⟨Z, hZ⟩ : ∃ Z, S_X0_pop ρ ct = Z := ⟨_, rfl⟩
  rw [hZ]
  refine q_enter hG mf_X0_pop (Nat.le_of_ble_eq_true rfl) ?_
  intro p e s m below meth c X hret
  refine q_lv (lv2 := [(0, .ref (gA G g 2)), (1, .int ct)]) rfl ?_
  refine q_iconst (v := 0) X dX0_pop_0 (by decide) ?_
  refine q_istore_n (lv' := [(2, .int 0), (0, .ref (gA G g 2)), (1, .int ct)]) X dX0_pop_1 (by decide) rfl ?_
  refine q_aload_n X 1 dX0_pop_2 rfl ?_
  refine q_geti (fk := 0) (x := ρ 16) X cf_X0 (ac_2_2 hT_g) (by decide) fl_X0_9 rfl rfl dX0_pop_3 (hr_g) rfl ?_
  refine q_iload_n X 2 dX0_pop_6 rfl ?_
  suffices hJ3 : ∀ (m2 : Int32), m2 = (if (ρ 16) < ct then (0) else (S_J9_min_7cf53 ((S_J9_floorDiv_7cf53 ((ρ 16) - ct) 2) + 1) (1000 - (ρ 20)))) → VV G (AA G) p l e { frames := 1, cells := 0, slots := 0, locals := 22 } s m ([.ref (gA G g 2), .int ct] : List Value).toArray below meth c 0 0 (MQ below (QC G (va_up h g Z) none) ([.ref (gA G g 2), .int ct] : List Value).toArray s 0 0 (AA G)) 4 h 36 [(2, .int m2), (0, .ref (gA G g 2)), (1, .int ct)] [] by
    refine q_icmp_lt (tgt := 36) X dX0_pop_7 (by decide) (fun c1 => ?_) (fun c1 => ?_)
    · skip
      refine q_sub (lv2 := [(2, .int 0), (0, .ref (gA G g 2)), (1, .int ct)]) [0, 1, 2] rfl ?_
      exact hJ3 0 (by exact ((if_pos c1).trans rfl).symm)
    · skip
      refine q_aload_n X 1 dX0_pop_10 rfl ?_
      refine q_geti (fk := 0) (x := ρ 16) X cf_X0 (ac_2_2 hT_g) (by decide) fl_X0_9 rfl rfl dX0_pop_11 (hr_g) rfl ?_
      refine q_iload_n X 2 dX0_pop_14 rfl ?_
      refine q_isub X dX0_pop_15 ?_
      refine q_iconst (v := 2) X dX0_pop_16 (by decide) ?_
      refine q_callS (h1 := _) (rest := []) (As := [.int ((ρ 16) - ct), .int 2]) X (c_J9_floorDiv_7cf53 (l := l) hG   ((ρ 16) - ct) 2 (by decide)) mf_J9_floorDiv_7cf53 ms_J9_floorDiv_7cf53 lk_X0_49 rfl ⟨by decide, by decide⟩ ⟨Nat.le_refl _, Nat.le_refl _⟩ rfl (Nat.le_of_ble_eq_true rfl) dX0_pop_17 (st2 := [.int (S_J9_floorDiv_7cf53 ((ρ 16) - ct) 2)]) rfl ?_
      refine q_iconst (v := 1) X dX0_pop_20 (by decide) ?_
      refine q_iadd X dX0_pop_21 ?_
      refine q_istore_n (lv' := [(3, .int ((S_J9_floorDiv_7cf53 ((ρ 16) - ct) 2) + 1)), (2, .int 0), (0, .ref (gA G g 2)), (1, .int ct)]) X dX0_pop_22 (by decide) rfl ?_
      refine q_iload_n X 0 dX0_pop_23 rfl ?_
      refine q_sipush (v := 1000) X dX0_pop_24 (by decide) ?_
      refine q_aload_n X 2 dX0_pop_27 rfl ?_
      refine q_geti (fk := 4) (x := ρ 20) X cf_X0 (ac_2_2 hT_g) (by decide) fl_X0_24 rfl rfl dX0_pop_28 (hr_g) rfl ?_
      refine q_isub X dX0_pop_31 ?_
      refine q_callS (h1 := _) (rest := []) (As := [.int ((S_J9_floorDiv_7cf53 ((ρ 16) - ct) 2) + 1), .int (1000 - (ρ 20))]) X (c_J9_min_7cf53 (l := l) hG   ((S_J9_floorDiv_7cf53 ((ρ 16) - ct) 2) + 1) (1000 - (ρ 20)) ) mf_J9_min_7cf53 ms_J9_min_7cf53 lk_X0_58 rfl ⟨by decide, by decide⟩ ⟨Nat.le_refl _, Nat.le_refl _⟩ rfl (Nat.le_of_ble_eq_true rfl) dX0_pop_32 (st2 := [.int (S_J9_min_7cf53 ((S_J9_floorDiv_7cf53 ((ρ 16) - ct) 2) + 1) (1000 - (ρ 20)))]) rfl ?_
      refine q_istore_n (lv' := [(2, .int (S_J9_min_7cf53 ((S_J9_floorDiv_7cf53 ((ρ 16) - ct) 2) + 1) (1000 - (ρ 20)))), (3, .int ((S_J9_floorDiv_7cf53 ((ρ 16) - ct) 2) + 1)), (0, .ref (gA G g 2)), (1, .int ct)]) X dX0_pop_35 (by decide) rfl ?_
      refine q_sub (lv2 := [(2, .int (S_J9_min_7cf53 ((S_J9_floorDiv_7cf53 ((ρ 16) - ct) 2) + 1) (1000 - (ρ 20)))), (0, .ref (gA G g 2)), (1, .int ct)]) [0, 2, 3] rfl ?_
      exact hJ3 (S_J9_min_7cf53 ((S_J9_floorDiv_7cf53 ((ρ 16) - ct) 2) + 1) (1000 - (ρ 20))) (by exact ((if_neg c1).trans rfl).symm)
  intro m2 e_m2
  refine q_aload_n X 1 dX0_pop_36 rfl ?_
  refine q_get (fk := 5) (v := .ref (gA G g 3)) X cf_X0 (ac_2_2 hT_g) (by decide) fl_X0_27 rfl rfl dX0_pop_37 rfl ?_
  refine q_aload_n X 1 dX0_pop_40 rfl ?_
  refine q_geti (fk := 2) (x := ρ 18) X cf_X0 (ac_2_2 hT_g) (by decide) fl_X0_18 rfl rfl dX0_pop_41 (hr_g) rfl ?_
  refine q_bipush (v := 6) X dX0_pop_44 (by decide) ?_
  refine q_callS (h1 := _) (rest := [.ref (gA G g 3)]) (As := [.int (ρ 18), .int 6]) X (c_J9_floorMod_7cf53 (l := l) hG   (ρ 18) 6 (by decide)) mf_J9_floorMod_7cf53 ms_J9_floorMod_7cf53 lk_X0_61 rfl ⟨by decide, by decide⟩ ⟨Nat.le_refl _, Nat.le_refl _⟩ rfl (Nat.le_of_ble_eq_true rfl) dX0_pop_46 (st2 := [.int (S_J9_floorMod_7cf53 (ρ 18) 6), .ref (gA G g 3)]) rfl ?_
  refine q_iload_n X 0 dX0_pop_49 rfl ?_
  obtain ⟨r4, e_r4⟩ : ∃ z : Nat → Int32, z = S_put ρ 26 1 6 (S_J9_floorMod_7cf53 (ρ 18) 6) m2 := ⟨_, rfl⟩
  refine q_callSN (h1 := _) (rest := []) (As := [.ref (gA G g 3), .int (S_J9_floorMod_7cf53 (ρ 18) 6), .int m2]) X (c_X9_put (l := l) hG (n := 6) (row := ρ) (S_J9_floorMod_7cf53 (ρ 18) 6) m2 (ac_2_3 hT_g) (hr_g) (by rw [hT_g]; rfl)) mf_X9_put ms_X9_put ln_X0_45 rfl ⟨by decide, by decide⟩ ⟨Nat.le_refl _, Nat.le_refl _⟩ rfl (Nat.le_of_ble_eq_true rfl) dX0_pop_50 (st2 := []) rfl ?_
  refine q_eq (h2 := va_up h g r4) (by rw [e_r4]) rfl ?_
  refine q_aload_n X 1 dX0_pop_53 rfl ?_
  refine q_dup X dX0_pop_54 rfl ?_
  refine q_geti (fk := 4) (x := r4 20) X cf_X0 (ac_2_2 hT_g) (by decide) fl_X0_24 rfl rfl dX0_pop_55 (va_up_self _ _ _) rfl ?_
  refine q_iload_n X 0 dX0_pop_58 rfl ?_
  refine q_iadd X dX0_pop_59 ?_
  obtain ⟨r5, e_r5⟩ : ∃ z : Nat → Int32, z = va_up r4 20 ((r4 20) + m2) := ⟨_, rfl⟩
  refine q_put (fk := 4) (h2 := va_up h g r5) X cf_X0 (ac_2_2 hT_g) (by decide) fl_X0_24 rfl rfl (by rw [hT_g]; rfl) rfl rfl rfl dX0_pop_60 (va_up_self _ _ _) (by rw [e_r5, va_up_up]) ?_
  have E : Z = r5 := by subst e_r5; subst e_r4; subst e_m2; exact hZ.symm.trans (rfl)
  exact q_vret X hret dX0_pop_63 rfl (by rw [E])
def L_X0_window_4 (fu : Nat) (ρ : Nat → Int32) (wi : Int32) (k : Int32) : Int32 := match fu with
  | 0 => 0
  | fu + 1 => if 6 ≤ k then (wi) else (L_X0_window_4 fu ρ (wi + (S_at ρ 26 1 6 k)) (k + 1))
def S_X0_window (ρ : Nat → Int32) : Int32 := L_X0_window_4 7 ρ 0 0
set_option maxRecDepth 100000 in
set_option maxHeartbeats 4000000 in
theorem w_X0_window_4 {G : Geo} {p : Program} {l : Launch} {e : Env} {s : State} {m : MethodId} {args : Array Value} {below : List Frame} {meth : Method} {c : Code} {h : Hp} {g : Nat} {ρ : Nat → Int32} (X : CX G (AA G) p s m meth c RX0 cX0_window 3) (hret : meth.sig.returnType = (some .int)) (hT_g : gT G g = 2) (hr_g : h g = ρ) (Z : Int32) : ∀ (fu : Nat) (wi : Int32) (k : Int32), ((6 : Int32).toInt - k.toInt).toNat < fu → L_X0_window_4 fu ρ wi k = Z → VV G (AA G) p l e { frames := 1, cells := 0, slots := 0, locals := 21 } s m args below meth c 0 0 (MQ below (QC G h (some (.int Z))) args s 0 0 (AA G)) 3 h 4 [(0, .ref (gA G g 2)), (1, .int wi), (2, .int k)] [] := by
  intro fu
  induction fu with
  | zero =>
    intro wi k  hm
    exact absurd hm (Nat.not_lt_zero _)
  | succ fu ih =>
    intro wi k  hm hZ
    have hG := X.2.2.2.2.2.1
    refine q_iload_n X 2 dX0_window_4 rfl ?_
    refine q_bipush (v := 6) X dX0_window_5 (by decide) ?_
    refine q_icmp_ge (tgt := 27) X dX0_window_7 (by decide) (fun c1 => ?_) (fun c1 => ?_)
    · skip
      refine q_iload_n X 1 dX0_window_27 rfl ?_
      have E : Z = wi := by exact hZ.symm.trans ((if_pos c1).trans rfl)
      exact q_iret X hret dX0_window_28 (by rw [E]) rfl
    · skip
      refine q_iload_n X 1 dX0_window_10 rfl ?_
      refine q_aload_n X 0 dX0_window_11 rfl ?_
      refine q_get (fk := 5) (v := .ref (gA G g 3)) X cf_X0 (ac_2_2 hT_g) (by decide) fl_X0_27 rfl rfl dX0_window_12 rfl ?_
      refine q_iload_n X 2 dX0_window_15 rfl ?_
      refine q_callSN (h1 := _) (rest := [.int wi]) (As := [.ref (gA G g 3), .int k]) X (c_X9_at (l := l) hG (n := 6) (row := ρ) k (ac_2_3 hT_g) (hr_g) (by rw [hT_g]; rfl)) mf_X9_at ms_X9_at ln_X0_68 rfl ⟨by decide, by decide⟩ ⟨Nat.le_refl _, Nat.le_refl _⟩ rfl (Nat.le_of_ble_eq_true rfl) dX0_window_16 (st2 := [.int (S_at ρ 26 1 6 k), .int wi]) rfl ?_
      refine q_iadd X dX0_window_19 ?_
      refine q_istore_n (lv' := [(1, .int (wi + (S_at ρ 26 1 6 k))), (0, .ref (gA G g 2)), (2, .int k)]) X dX0_window_20 (by decide) rfl ?_
      refine q_iinc (v := k + 1) (lv' := [(2, .int (k + 1)), (1, .int (wi + (S_at ρ 26 1 6 k))), (0, .ref (gA G g 2))]) X 2 dX0_window_21 rfl rfl (by decide) rfl ?_
      refine q_goto (tgt := 4) X dX0_window_24 (by decide) ?_
      refine q_sub (lv2 := [(0, .ref (gA G g 2)), (1, .int (wi + (S_at ρ 26 1 6 k))), (2, .int (k + 1))]) [2, 1, 0] rfl ?_
      have E : L_X0_window_4 fu ρ (wi + (S_at ρ 26 1 6 k)) (k + 1) = Z := Eq.trans (Eq.symm (by exact (if_neg c1).trans rfl)) hZ
      exact ih (wi + (S_at ρ 26 1 6 k)) (k + 1)  (by exact ms_up c1 hm) E
set_option maxRecDepth 100000 in
set_option maxHeartbeats 4000000 in
theorem c_X0_window {G : Geo} {l : Launch} (hG : GOK G) {g : Nat} {h : Hp} {ρ : Nat → Int32} (hT_g : gT G g = 2) (hr_g : h g = ρ) : CM G l yX0_window cX0_window 3 (some .int) 1 21 [.ref (gA G g 2)] h h (some (.int (S_X0_window ρ))) := by
  obtain ⟨Z, hZ⟩ : ∃ Z, S_X0_window ρ = Z := ⟨_, rfl⟩
  rw [hZ]
  refine q_enter hG mf_X0_window (Nat.le_of_ble_eq_true rfl) ?_
  intro p e s m below meth c X hret
  refine q_lv (lv2 := [(0, .ref (gA G g 2))]) rfl ?_
  refine q_iconst (v := 0) X dX0_window_0 (by decide) ?_
  refine q_istore_n (lv' := [(1, .int 0), (0, .ref (gA G g 2))]) X dX0_window_1 (by decide) rfl ?_
  refine q_iconst (v := 0) X dX0_window_2 (by decide) ?_
  refine q_istore_n (lv' := [(2, .int 0), (1, .int 0), (0, .ref (gA G g 2))]) X dX0_window_3 (by decide) rfl ?_
  refine q_sub (lv2 := [(0, .ref (gA G g 2)), (1, .int 0), (2, .int 0)]) [2, 1, 0] rfl ?_
  have E : L_X0_window_4 7 ρ 0 0 = Z := Eq.trans (Eq.symm (by exact rfl)) hZ
  exact w_X0_window_4 X hret hT_g hr_g Z 7 0 0  (by decide) E
def S_X0_lookForCrack (ρ : Nat → Int32) (th : Int32) : (Nat → Int32) := let m2 : Int32 := if (S_X0_window ρ) < th then (0) else (1); if (ρ 23) = (-100009) then (if m2 = 0 then (ρ) else (va_up ρ 23 (ρ 18))) else (if (ρ 24) = (-100009) then (if m2 = 0 then (va_up ρ 24 (ρ 18)) else (ρ)) else (ρ))
set_option maxRecDepth 100000 in
set_option maxHeartbeats 4000000 in
theorem c_X0_lookForCrack {G : Geo} {l : Launch} (hG : GOK G) {g : Nat} {h : Hp} {ρ : Nat → Int32} (th : Int32) (hT_g : gT G g = 2) (hr_g : h g = ρ) : CM G l yX0_lookForCrack cX0_lookForCrack 3 none 2 43 [.ref (gA G g 2), .int th] h (va_up h g (S_X0_lookForCrack ρ th)) none := by
  obtain ⟨Z, hZ⟩ : ∃ Z, S_X0_lookForCrack ρ th = Z := ⟨_, rfl⟩
  rw [hZ]
  refine q_enter hG mf_X0_lookForCrack (Nat.le_of_ble_eq_true rfl) ?_
  intro p e s m below meth c X hret
  refine q_lv (lv2 := [(0, .ref (gA G g 2)), (1, .int th)]) rfl ?_
  refine q_aload_n X 0 dX0_lookForCrack_0 rfl ?_
  refine q_callV (h1 := _) (rest := []) (As := []) X (c_X0_window (l := l) hG (ρ := ρ)   hT_g (hr_g)) mf_X0_window mv_X0_window cf_X0 rfl (ac_2_2 hT_g) lk_X0_64 rfl ⟨by decide, by decide⟩ ⟨Nat.le_refl _, Nat.le_refl _⟩ rfl (Nat.le_of_ble_eq_true rfl) dX0_lookForCrack_1 (st2 := [.int (S_X0_window ρ)]) rfl ?_
  refine q_iload_n X 1 dX0_lookForCrack_4 rfl ?_
  suffices hJ3 : ∀ (m2 : Int32), m2 = (if (S_X0_window ρ) < th then (0) else (1)) → VV G (AA G) p l e { frames := 2, cells := 0, slots := 0, locals := 43 } s m ([.ref (gA G g 2), .int th] : List Value).toArray below meth c 0 0 (MQ below (QC G (va_up h g Z) none) ([.ref (gA G g 2), .int th] : List Value).toArray s 0 0 (AA G)) 3 h 13 [(0, .ref (gA G g 2)), (1, .int th)] [.int m2] by
    refine q_icmp_lt (tgt := 12) X dX0_lookForCrack_5 (by decide) (fun c1 => ?_) (fun c1 => ?_)
    · skip
      refine q_iconst (v := 0) X dX0_lookForCrack_12 (by decide) ?_
      refine q_sub (lv2 := [(0, .ref (gA G g 2)), (1, .int th)]) [0, 1] rfl ?_
      exact hJ3 0 (by exact ((if_pos c1).trans rfl).symm)
    · skip
      refine q_iconst (v := 1) X dX0_lookForCrack_8 (by decide) ?_
      refine q_goto (tgt := 13) X dX0_lookForCrack_9 (by decide) ?_
      refine q_sub (lv2 := [(0, .ref (gA G g 2)), (1, .int th)]) [0, 1] rfl ?_
      exact hJ3 1 (by exact ((if_neg c1).trans rfl).symm)
  intro m2 e_m2
  refine q_istore_n (lv' := [(2, .int m2), (0, .ref (gA G g 2)), (1, .int th)]) X dX0_lookForCrack_13 (by decide) rfl ?_
  refine q_aload_n X 1 dX0_lookForCrack_14 rfl ?_
  refine q_geti (fk := 6) (x := ρ 23) X cf_X0 (ac_2_2 hT_g) (by decide) fl_X0_32 rfl rfl dX0_lookForCrack_15 (hr_g) rfl ?_
  refine q_ldc X kc_X0_31 dX0_lookForCrack_18 ?_
  suffices hJ11 : ∀ (m5 : Nat → Int32), m5 = (if (ρ 23) = (-100009) then (if m2 = 0 then (ρ) else (va_up ρ 23 (ρ 18))) else (if (ρ 24) = (-100009) then (if m2 = 0 then (va_up ρ 24 (ρ 18)) else (ρ)) else (ρ))) → VV G (AA G) p l e { frames := 2, cells := 0, slots := 0, locals := 43 } s m ([.ref (gA G g 2), .int th] : List Value).toArray below meth c 0 0 (MQ below (QC G (va_up h g Z) none) ([.ref (gA G g 2), .int th] : List Value).toArray s 0 0 (AA G)) 3 (va_up h g m5) 68 [(2, .int m2), (0, .ref (gA G g 2)), (1, .int th)] [] by
    refine q_icmp_ne (tgt := 38) X dX0_lookForCrack_20 (by decide) (fun c4 => ?_) (fun c4 => ?_)
    · skip
      refine q_aload_n X 1 dX0_lookForCrack_38 rfl ?_
      refine q_geti (fk := 6) (x := ρ 23) X cf_X0 (ac_2_2 hT_g) (by decide) fl_X0_32 rfl rfl dX0_lookForCrack_39 (hr_g) rfl ?_
      refine q_ldc X kc_X0_31 dX0_lookForCrack_42 ?_
      refine q_icmp_eq (tgt := 68) X dX0_lookForCrack_44 (by decide) (fun q => absurd q c4) (fun _ => ?_)
      refine q_aload_n X 1 dX0_lookForCrack_47 rfl ?_
      refine q_geti (fk := 7) (x := ρ 24) X cf_X0 (ac_2_2 hT_g) (by decide) fl_X0_35 rfl rfl dX0_lookForCrack_48 (hr_g) rfl ?_
      refine q_ldc X kc_X0_31 dX0_lookForCrack_51 ?_
      refine q_icmp_ne (tgt := 68) X dX0_lookForCrack_53 (by decide) (fun c6 => ?_) (fun c6 => ?_)
      · skip
        refine q_sub (lv2 := [(2, .int m2), (0, .ref (gA G g 2)), (1, .int th)]) [0, 1, 2] rfl ?_
        refine q_eq (h2 := va_up h g ρ) (va_up_id2 (hr_g)).symm rfl ?_
        exact hJ11 ρ (by exact ((if_neg c4).trans ((if_neg c6).trans rfl)).symm)
      · skip
        refine q_iload_n X 0 dX0_lookForCrack_56 rfl ?_
        refine q_if_ne (tgt := 68) X dX0_lookForCrack_57 (by decide) (fun c7 => ?_) (fun c7 => ?_)
        · skip
          refine q_sub (lv2 := [(2, .int m2), (0, .ref (gA G g 2)), (1, .int th)]) [0, 1, 2] rfl ?_
          refine q_eq (h2 := va_up h g ρ) (va_up_id2 (hr_g)).symm rfl ?_
          exact hJ11 ρ (by exact ((if_neg c4).trans ((if_pos c6).trans ((if_neg c7).trans rfl))).symm)
        · skip
          refine q_aload_n X 1 dX0_lookForCrack_60 rfl ?_
          refine q_aload_n X 1 dX0_lookForCrack_61 rfl ?_
          refine q_geti (fk := 2) (x := ρ 18) X cf_X0 (ac_2_2 hT_g) (by decide) fl_X0_18 rfl rfl dX0_lookForCrack_62 (hr_g) rfl ?_
          obtain ⟨r8, e_r8⟩ : ∃ z : Nat → Int32, z = va_up ρ 24 (ρ 18) := ⟨_, rfl⟩
          refine q_put (fk := 7) (h2 := va_up h g r8) X cf_X0 (ac_2_2 hT_g) (by decide) fl_X0_35 rfl rfl (by rw [hT_g]; rfl) rfl rfl rfl dX0_lookForCrack_65 (hr_g) (by rw [e_r8]) ?_
          refine q_sub (lv2 := [(2, .int m2), (0, .ref (gA G g 2)), (1, .int th)]) [0, 1, 2] rfl ?_
          exact hJ11 r8 (by subst e_r8; exact ((if_neg c4).trans ((if_pos c6).trans ((if_pos c7).trans rfl))).symm)
    · skip
      refine q_iload_n X 0 dX0_lookForCrack_23 rfl ?_
      refine q_if_eq (tgt := 38) X dX0_lookForCrack_24 (by decide) (fun c9 => ?_) (fun c9 => ?_)
      · skip
        refine q_aload_n X 1 dX0_lookForCrack_38 rfl ?_
        refine q_geti (fk := 6) (x := ρ 23) X cf_X0 (ac_2_2 hT_g) (by decide) fl_X0_32 rfl rfl dX0_lookForCrack_39 (hr_g) rfl ?_
        refine q_ldc X kc_X0_31 dX0_lookForCrack_42 ?_
        refine q_icmp_eq (tgt := 68) X dX0_lookForCrack_44 (by decide) (fun _ => ?_) (fun q => absurd c4 q)
        refine q_sub (lv2 := [(2, .int m2), (0, .ref (gA G g 2)), (1, .int th)]) [0, 1, 2] rfl ?_
        refine q_eq (h2 := va_up h g ρ) (va_up_id2 (hr_g)).symm rfl ?_
        exact hJ11 ρ (by exact ((if_pos c4).trans ((if_pos c9).trans rfl)).symm)
      · skip
        refine q_aload_n X 1 dX0_lookForCrack_27 rfl ?_
        refine q_aload_n X 1 dX0_lookForCrack_28 rfl ?_
        refine q_geti (fk := 2) (x := ρ 18) X cf_X0 (ac_2_2 hT_g) (by decide) fl_X0_18 rfl rfl dX0_lookForCrack_29 (hr_g) rfl ?_
        obtain ⟨r10, e_r10⟩ : ∃ z : Nat → Int32, z = va_up ρ 23 (ρ 18) := ⟨_, rfl⟩
        refine q_put (fk := 6) (h2 := va_up h g r10) X cf_X0 (ac_2_2 hT_g) (by decide) fl_X0_32 rfl rfl (by rw [hT_g]; rfl) rfl rfl rfl dX0_lookForCrack_32 (hr_g) (by rw [e_r10]) ?_
        refine q_goto (tgt := 68) X dX0_lookForCrack_35 (by decide) ?_
        refine q_sub (lv2 := [(2, .int m2), (0, .ref (gA G g 2)), (1, .int th)]) [0, 1, 2] rfl ?_
        exact hJ11 r10 (by subst e_r10; exact ((if_pos c4).trans ((if_neg c9).trans rfl)).symm)
  intro m5 e_m5
  have E : Z = m5 := by subst e_m5; subst e_m2; exact hZ.symm.trans (rfl)
  exact q_vret X hret dX0_lookForCrack_68 rfl (by rw [E])
def S_X0_number (ρ : Nat → Int32) (wh : Int32) : Int32 := if wh = 0 then (ρ 16) else (if wh = 1 then (ρ 17) else (if wh = 2 then (ρ 18) else (if wh = 3 then (ρ 19) else (if wh = 4 then (ρ 20) else (if wh = 5 then (S_at ρ 26 1 6 (S_J9_floorMod_7cf53 (ρ 18) 6)) else (if wh = 6 then (S_X0_window ρ) else (if wh = 7 then (ρ 23) else (if wh = 8 then (ρ 24) else (if wh = 9 then (ρ 25) else ((-100001)))))))))))
set_option maxRecDepth 100000 in
set_option maxHeartbeats 4000000 in
theorem c_X0_number {G : Geo} {l : Launch} (hG : GOK G) {g : Nat} {h : Hp} {ρ : Nat → Int32} (wh : Int32) (hT_g : gT G g = 2) (hr_g : h g = ρ) : CM G l yX0_number cX0_number 2 (some .int) 2 43 [.ref (gA G g 2), .int wh] h h (some (.int (S_X0_number ρ wh))) := by
  obtain ⟨Z, hZ⟩ : ∃ Z, S_X0_number ρ wh = Z := ⟨_, rfl⟩
  rw [hZ]
  refine q_enter hG mf_X0_number (Nat.le_of_ble_eq_true rfl) ?_
  intro p e s m below meth c X hret
  refine q_lv (lv2 := [(0, .ref (gA G g 2)), (1, .int wh)]) rfl ?_
  refine q_iload_n X 1 dX0_number_0 rfl ?_
  rcases Decidable.em (wh = 0) with c1 | c1
  · skip
    refine q_tabIn (off := 55) (tgt := 56) X dX0_number_1 (by rw [c1]; decide) (by rw [c1]; decide) (by rw [c1]; rfl) (by decide) ?_
    refine q_aload_n X 0 dX0_number_56 rfl ?_
    refine q_geti (fk := 0) (x := ρ 16) X cf_X0 (ac_2_2 hT_g) (by decide) fl_X0_9 rfl rfl dX0_number_57 (hr_g) rfl ?_
    have E : Z = ρ 16 := by exact hZ.symm.trans ((if_pos c1).trans rfl)
    exact q_iret X hret dX0_number_60 (by rw [E]) rfl
  rcases Decidable.em (wh = 1) with c2 | c2
  · skip
    refine q_tabIn (off := 60) (tgt := 61) X dX0_number_1 (by rw [c2]; decide) (by rw [c2]; decide) (by rw [c2]; rfl) (by decide) ?_
    refine q_aload_n X 0 dX0_number_61 rfl ?_
    refine q_geti (fk := 1) (x := ρ 17) X cf_X0 (ac_2_2 hT_g) (by decide) fl_X0_15 rfl rfl dX0_number_62 (hr_g) rfl ?_
    have E : Z = ρ 17 := by exact hZ.symm.trans ((if_neg c1).trans ((if_pos c2).trans rfl))
    exact q_iret X hret dX0_number_65 (by rw [E]) rfl
  rcases Decidable.em (wh = 2) with c3 | c3
  · skip
    refine q_tabIn (off := 65) (tgt := 66) X dX0_number_1 (by rw [c3]; decide) (by rw [c3]; decide) (by rw [c3]; rfl) (by decide) ?_
    refine q_aload_n X 0 dX0_number_66 rfl ?_
    refine q_geti (fk := 2) (x := ρ 18) X cf_X0 (ac_2_2 hT_g) (by decide) fl_X0_18 rfl rfl dX0_number_67 (hr_g) rfl ?_
    have E : Z = ρ 18 := by exact hZ.symm.trans ((if_neg c1).trans ((if_neg c2).trans ((if_pos c3).trans rfl)))
    exact q_iret X hret dX0_number_70 (by rw [E]) rfl
  rcases Decidable.em (wh = 3) with c4 | c4
  · skip
    refine q_tabIn (off := 70) (tgt := 71) X dX0_number_1 (by rw [c4]; decide) (by rw [c4]; decide) (by rw [c4]; rfl) (by decide) ?_
    refine q_aload_n X 0 dX0_number_71 rfl ?_
    refine q_geti (fk := 3) (x := ρ 19) X cf_X0 (ac_2_2 hT_g) (by decide) fl_X0_21 rfl rfl dX0_number_72 (hr_g) rfl ?_
    have E : Z = ρ 19 := by exact hZ.symm.trans ((if_neg c1).trans ((if_neg c2).trans ((if_neg c3).trans ((if_pos c4).trans rfl))))
    exact q_iret X hret dX0_number_75 (by rw [E]) rfl
  rcases Decidable.em (wh = 4) with c5 | c5
  · skip
    refine q_tabIn (off := 75) (tgt := 76) X dX0_number_1 (by rw [c5]; decide) (by rw [c5]; decide) (by rw [c5]; rfl) (by decide) ?_
    refine q_aload_n X 0 dX0_number_76 rfl ?_
    refine q_geti (fk := 4) (x := ρ 20) X cf_X0 (ac_2_2 hT_g) (by decide) fl_X0_24 rfl rfl dX0_number_77 (hr_g) rfl ?_
    have E : Z = ρ 20 := by exact hZ.symm.trans ((if_neg c1).trans ((if_neg c2).trans ((if_neg c3).trans ((if_neg c4).trans ((if_pos c5).trans rfl)))))
    exact q_iret X hret dX0_number_80 (by rw [E]) rfl
  rcases Decidable.em (wh = 5) with c6 | c6
  · skip
    refine q_tabIn (off := 80) (tgt := 81) X dX0_number_1 (by rw [c6]; decide) (by rw [c6]; decide) (by rw [c6]; rfl) (by decide) ?_
    refine q_aload_n X 0 dX0_number_81 rfl ?_
    refine q_get (fk := 5) (v := .ref (gA G g 3)) X cf_X0 (ac_2_2 hT_g) (by decide) fl_X0_27 rfl rfl dX0_number_82 rfl ?_
    refine q_aload_n X 0 dX0_number_85 rfl ?_
    refine q_geti (fk := 2) (x := ρ 18) X cf_X0 (ac_2_2 hT_g) (by decide) fl_X0_18 rfl rfl dX0_number_86 (hr_g) rfl ?_
    refine q_bipush (v := 6) X dX0_number_89 (by decide) ?_
    refine q_callS (h1 := _) (rest := [.ref (gA G g 3)]) (As := [.int (ρ 18), .int 6]) X (c_J9_floorMod_7cf53 (l := l) hG   (ρ 18) 6 (by decide)) mf_J9_floorMod_7cf53 ms_J9_floorMod_7cf53 lk_X0_61 rfl ⟨by decide, by decide⟩ ⟨Nat.le_refl _, Nat.le_refl _⟩ rfl (Nat.le_of_ble_eq_true rfl) dX0_number_91 (st2 := [.int (S_J9_floorMod_7cf53 (ρ 18) 6), .ref (gA G g 3)]) rfl ?_
    refine q_callSN (h1 := _) (rest := []) (As := [.ref (gA G g 3), .int (S_J9_floorMod_7cf53 (ρ 18) 6)]) X (c_X9_at (l := l) hG (n := 6) (row := ρ) (S_J9_floorMod_7cf53 (ρ 18) 6) (ac_2_3 hT_g) (hr_g) (by rw [hT_g]; rfl)) mf_X9_at ms_X9_at ln_X0_68 rfl ⟨by decide, by decide⟩ ⟨Nat.le_refl _, Nat.le_refl _⟩ rfl (Nat.le_of_ble_eq_true rfl) dX0_number_94 (st2 := [.int (S_at ρ 26 1 6 (S_J9_floorMod_7cf53 (ρ 18) 6))]) rfl ?_
    have E : Z = S_at ρ 26 1 6 (S_J9_floorMod_7cf53 (ρ 18) 6) := by exact hZ.symm.trans ((if_neg c1).trans ((if_neg c2).trans ((if_neg c3).trans ((if_neg c4).trans ((if_neg c5).trans ((if_pos c6).trans rfl))))))
    exact q_iret X hret dX0_number_97 (by rw [E]) rfl
  rcases Decidable.em (wh = 6) with c7 | c7
  · skip
    refine q_tabIn (off := 97) (tgt := 98) X dX0_number_1 (by rw [c7]; decide) (by rw [c7]; decide) (by rw [c7]; rfl) (by decide) ?_
    refine q_aload_n X 0 dX0_number_98 rfl ?_
    refine q_callV (h1 := _) (rest := []) (As := []) X (c_X0_window (l := l) hG (ρ := ρ)   hT_g (hr_g)) mf_X0_window mv_X0_window cf_X0 rfl (ac_2_2 hT_g) lk_X0_64 rfl ⟨by decide, by decide⟩ ⟨Nat.le_refl _, Nat.le_refl _⟩ rfl (Nat.le_of_ble_eq_true rfl) dX0_number_99 (st2 := [.int (S_X0_window ρ)]) rfl ?_
    have E : Z = S_X0_window ρ := by exact hZ.symm.trans ((if_neg c1).trans ((if_neg c2).trans ((if_neg c3).trans ((if_neg c4).trans ((if_neg c5).trans ((if_neg c6).trans ((if_pos c7).trans rfl)))))))
    exact q_iret X hret dX0_number_102 (by rw [E]) rfl
  rcases Decidable.em (wh = 7) with c8 | c8
  · skip
    refine q_tabIn (off := 102) (tgt := 103) X dX0_number_1 (by rw [c8]; decide) (by rw [c8]; decide) (by rw [c8]; rfl) (by decide) ?_
    refine q_aload_n X 0 dX0_number_103 rfl ?_
    refine q_geti (fk := 6) (x := ρ 23) X cf_X0 (ac_2_2 hT_g) (by decide) fl_X0_32 rfl rfl dX0_number_104 (hr_g) rfl ?_
    have E : Z = ρ 23 := by exact hZ.symm.trans ((if_neg c1).trans ((if_neg c2).trans ((if_neg c3).trans ((if_neg c4).trans ((if_neg c5).trans ((if_neg c6).trans ((if_neg c7).trans ((if_pos c8).trans rfl))))))))
    exact q_iret X hret dX0_number_107 (by rw [E]) rfl
  rcases Decidable.em (wh = 8) with c9 | c9
  · skip
    refine q_tabIn (off := 107) (tgt := 108) X dX0_number_1 (by rw [c9]; decide) (by rw [c9]; decide) (by rw [c9]; rfl) (by decide) ?_
    refine q_aload_n X 0 dX0_number_108 rfl ?_
    refine q_geti (fk := 7) (x := ρ 24) X cf_X0 (ac_2_2 hT_g) (by decide) fl_X0_35 rfl rfl dX0_number_109 (hr_g) rfl ?_
    have E : Z = ρ 24 := by exact hZ.symm.trans ((if_neg c1).trans ((if_neg c2).trans ((if_neg c3).trans ((if_neg c4).trans ((if_neg c5).trans ((if_neg c6).trans ((if_neg c7).trans ((if_neg c8).trans ((if_pos c9).trans rfl)))))))))
    exact q_iret X hret dX0_number_112 (by rw [E]) rfl
  rcases Decidable.em (wh = 9) with c10 | c10
  · skip
    refine q_tabIn (off := 112) (tgt := 113) X dX0_number_1 (by rw [c10]; decide) (by rw [c10]; decide) (by rw [c10]; rfl) (by decide) ?_
    refine q_aload_n X 0 dX0_number_113 rfl ?_
    refine q_geti (fk := 8) (x := ρ 25) X cf_X0 (ac_2_2 hT_g) (by decide) fl_X0_38 rfl rfl dX0_number_114 (hr_g) rfl ?_
    have E : Z = ρ 25 := by exact hZ.symm.trans ((if_neg c1).trans ((if_neg c2).trans ((if_neg c3).trans ((if_neg c4).trans ((if_neg c5).trans ((if_neg c6).trans ((if_neg c7).trans ((if_neg c8).trans ((if_neg c9).trans ((if_pos c10).trans rfl))))))))))
    exact q_iret X hret dX0_number_117 (by rw [E]) rfl
  refine q_tabOut (tgt := 118) X dX0_number_1 (by have zc1 := lv_neT c1 (a := 0) (by decide); have zc2 := lv_neT c2 (a := 1) (by decide); have zc3 := lv_neT c3 (a := 2) (by decide); have zc4 := lv_neT c4 (a := 3) (by decide); have zc5 := lv_neT c5 (a := 4) (by decide); have zc6 := lv_neT c6 (a := 5) (by decide); have zc7 := lv_neT c7 (a := 6) (by decide); have zc8 := lv_neT c8 (a := 7) (by decide); have zc9 := lv_neT c9 (a := 8) (by decide); have zc10 := lv_neT c10 (a := 9) (by decide); omega) (by decide) ?_
  refine q_ldc X kc_X0_72 dX0_number_118 ?_
  have E : Z = (-100001) := by exact hZ.symm.trans ((if_neg c1).trans ((if_neg c2).trans ((if_neg c3).trans ((if_neg c4).trans ((if_neg c5).trans ((if_neg c6).trans ((if_neg c7).trans ((if_neg c8).trans ((if_neg c9).trans ((if_neg c10).trans rfl))))))))))
  exact q_iret X hret dX0_number_120 (by rw [E]) rfl
def S_X4_copyFrom (ρ : Nat → Int32) (ρ2 : Nat → Int32) : (Nat → Int32) := let r1 : Nat → Int32 := S_X5_copyFrom ρ ρ2; let r2 : Nat → Int32 := S_X0_copyFrom r1 ρ2; let r3 : Nat → Int32 := va_up r2 0 (ρ2 0); let r4 : Nat → Int32 := va_up r3 1 (ρ2 1); let r5 : Nat → Int32 := va_up r4 2 (ρ2 2); let r6 : Nat → Int32 := va_up r5 4 (ρ2 4); let r7 : Nat → Int32 := va_up r6 7 (ρ2 7); va_up r7 13 (ρ2 13)
set_option maxRecDepth 100000 in
set_option maxHeartbeats 4000000 in
theorem c_X4_copyFrom {G : Geo} {l : Launch} (hG : GOK G) {g g2 : Nat} {h : Hp} {ρ : Nat → Int32} {ρ2 : Nat → Int32} (hT_g : gT G g = 2) (hT_g2 : gT G g2 = 2) (hr_g : h g = ρ) (hr_g2 : h g2 = ρ2) (hne : g2 ≠ g) : CM G l yX4_copyFrom cX4_copyFrom 2 none 3 102 [.ref (gA G g 0), .ref (gA G g2 0)] h (va_up h g (S_X4_copyFrom ρ ρ2)) none := by
  obtain ⟨Z, hZ⟩ : ∃ Z, S_X4_copyFrom ρ ρ2 = Z := ⟨_, rfl⟩
  rw [hZ]
  refine q_enter hG mf_X4_copyFrom (Nat.le_of_ble_eq_true rfl) ?_
  intro p e s m below meth c X hret
  refine q_lv (lv2 := [(0, .ref (gA G g 0)), (1, .ref (gA G g2 0))]) rfl ?_
  refine q_aload_n X 0 dX4_copyFrom_0 rfl ?_
  refine q_get (fk := 0) (v := .ref (gA G g 1)) X cf_X4 (ac_2_0 hT_g) (by decide) fl_X4_12 rfl rfl dX4_copyFrom_1 rfl ?_
  refine q_aload_n X 1 dX4_copyFrom_4 rfl ?_
  refine q_get (fk := 0) (v := .ref (gA G g2 1)) X cf_X4 (ac_2_0 hT_g2) (by decide) fl_X4_12 rfl rfl dX4_copyFrom_5 rfl ?_
  obtain ⟨r1, e_r1⟩ : ∃ z : Nat → Int32, z = S_X5_copyFrom ρ ρ2 := ⟨_, rfl⟩
  refine q_callV (h1 := _) (rest := []) (As := [.ref (gA G g2 1)]) X (c_X5_copyFrom (l := l) hG (ρ := ρ) (ρ2 := ρ2)   hT_g hT_g2 (hr_g) (hr_g2) hne) mf_X5_copyFrom mv_X5_copyFrom cf_X5 rfl (ac_2_1 hT_g) lk_X4_44 rfl ⟨by decide, by decide⟩ ⟨Nat.le_refl _, Nat.le_refl _⟩ rfl (Nat.le_of_ble_eq_true rfl) dX4_copyFrom_8 (st2 := []) rfl ?_
  refine q_eq (h2 := va_up h g r1) (by rw [e_r1]) rfl ?_
  refine q_aload_n X 0 dX4_copyFrom_11 rfl ?_
  refine q_get (fk := 1) (v := .ref (gA G g 2)) X cf_X4 (ac_2_0 hT_g) (by decide) fl_X4_21 rfl rfl dX4_copyFrom_12 rfl ?_
  refine q_aload_n X 1 dX4_copyFrom_15 rfl ?_
  refine q_get (fk := 1) (v := .ref (gA G g2 2)) X cf_X4 (ac_2_0 hT_g2) (by decide) fl_X4_21 rfl rfl dX4_copyFrom_16 rfl ?_
  obtain ⟨r2, e_r2⟩ : ∃ z : Nat → Int32, z = S_X0_copyFrom r1 ρ2 := ⟨_, rfl⟩
  refine q_callV (h1 := _) (rest := []) (As := [.ref (gA G g2 2)]) X (c_X0_copyFrom (l := l) hG (ρ := r1) (ρ2 := ρ2)   hT_g hT_g2 (va_up_self _ _ _) ((va_up_ne _ _ hne).trans (hr_g2)) hne) mf_X0_copyFrom mv_X0_copyFrom cf_X0 rfl (ac_2_2 hT_g) lk_X4_48 rfl ⟨by decide, by decide⟩ ⟨Nat.le_refl _, Nat.le_refl _⟩ rfl (Nat.le_of_ble_eq_true rfl) dX4_copyFrom_19 (st2 := []) rfl ?_
  refine q_eq (h2 := va_up h g r2) (by rw [e_r2]; exact va_up_up _ _ _ _) rfl ?_
  refine q_aload_n X 0 dX4_copyFrom_22 rfl ?_
  refine q_aload_n X 1 dX4_copyFrom_23 rfl ?_
  refine q_geti (fk := 2) (x := ρ2 0) X cf_X4 (ac_2_0 hT_g2) (by decide) fl_X4_25 rfl rfl dX4_copyFrom_24 ((va_up_ne _ _ hne).trans (hr_g2)) rfl ?_
  obtain ⟨r3, e_r3⟩ : ∃ z : Nat → Int32, z = va_up r2 0 (ρ2 0) := ⟨_, rfl⟩
  refine q_put (fk := 2) (h2 := va_up h g r3) X cf_X4 (ac_2_0 hT_g) (by decide) fl_X4_25 rfl rfl (by rw [hT_g]; rfl) rfl rfl rfl dX4_copyFrom_27 (va_up_self _ _ _) (by rw [e_r3, va_up_up]) ?_
  refine q_aload_n X 0 dX4_copyFrom_30 rfl ?_
  refine q_aload_n X 1 dX4_copyFrom_31 rfl ?_
  refine q_geti (fk := 3) (x := ρ2 1) X cf_X4 (ac_2_0 hT_g2) (by decide) fl_X4_29 rfl rfl dX4_copyFrom_32 ((va_up_ne _ _ hne).trans (hr_g2)) rfl ?_
  obtain ⟨r4, e_r4⟩ : ∃ z : Nat → Int32, z = va_up r3 1 (ρ2 1) := ⟨_, rfl⟩
  refine q_put (fk := 3) (h2 := va_up h g r4) X cf_X4 (ac_2_0 hT_g) (by decide) fl_X4_29 rfl rfl (by rw [hT_g]; rfl) rfl rfl rfl dX4_copyFrom_35 (va_up_self _ _ _) (by rw [e_r4, va_up_up]) ?_
  refine q_aload_n X 0 dX4_copyFrom_38 rfl ?_
  refine q_aload_n X 1 dX4_copyFrom_39 rfl ?_
  refine q_geti (fk := 4) (x := ρ2 2) X cf_X4 (ac_2_0 hT_g2) (by decide) fl_X4_32 rfl rfl dX4_copyFrom_40 ((va_up_ne _ _ hne).trans (hr_g2)) rfl ?_
  obtain ⟨r5, e_r5⟩ : ∃ z : Nat → Int32, z = va_up r4 2 (ρ2 2) := ⟨_, rfl⟩
  refine q_put (fk := 4) (h2 := va_up h g r5) X cf_X4 (ac_2_0 hT_g) (by decide) fl_X4_32 rfl rfl (by rw [hT_g]; rfl) rfl rfl rfl dX4_copyFrom_43 (va_up_self _ _ _) (by rw [e_r5, va_up_up]) ?_
  refine q_aload_n X 0 dX4_copyFrom_46 rfl ?_
  refine q_aload_n X 1 dX4_copyFrom_47 rfl ?_
  refine q_geti (fk := 5) (x := ρ2 4) X cf_X4 (ac_2_0 hT_g2) (by decide) fl_X4_35 rfl rfl dX4_copyFrom_48 ((va_up_ne _ _ hne).trans (hr_g2)) rfl ?_
  obtain ⟨r6, e_r6⟩ : ∃ z : Nat → Int32, z = va_up r5 4 (ρ2 4) := ⟨_, rfl⟩
  refine q_put (fk := 5) (h2 := va_up h g r6) X cf_X4 (ac_2_0 hT_g) (by decide) fl_X4_35 rfl rfl (by rw [hT_g]; rfl) rfl rfl rfl dX4_copyFrom_51 (va_up_self _ _ _) (by rw [e_r6, va_up_up]) ?_
  refine q_aload_n X 0 dX4_copyFrom_54 rfl ?_
  refine q_aload_n X 1 dX4_copyFrom_55 rfl ?_
  refine q_geti (fk := 6) (x := ρ2 7) X cf_X4 (ac_2_0 hT_g2) (by decide) fl_X4_38 rfl rfl dX4_copyFrom_56 ((va_up_ne _ _ hne).trans (hr_g2)) rfl ?_
  obtain ⟨r7, e_r7⟩ : ∃ z : Nat → Int32, z = va_up r6 7 (ρ2 7) := ⟨_, rfl⟩
  refine q_put (fk := 6) (h2 := va_up h g r7) X cf_X4 (ac_2_0 hT_g) (by decide) fl_X4_38 rfl rfl (by rw [hT_g]; rfl) rfl rfl rfl dX4_copyFrom_59 (va_up_self _ _ _) (by rw [e_r7, va_up_up]) ?_
  refine q_aload_n X 0 dX4_copyFrom_62 rfl ?_
  refine q_aload_n X 1 dX4_copyFrom_63 rfl ?_
  refine q_geti (fk := 7) (x := ρ2 13) X cf_X4 (ac_2_0 hT_g2) (by decide) fl_X4_41 rfl rfl dX4_copyFrom_64 ((va_up_ne _ _ hne).trans (hr_g2)) rfl ?_
  obtain ⟨r8, e_r8⟩ : ∃ z : Nat → Int32, z = va_up r7 13 (ρ2 13) := ⟨_, rfl⟩
  refine q_put (fk := 7) (h2 := va_up h g r8) X cf_X4 (ac_2_0 hT_g) (by decide) fl_X4_41 rfl rfl (by rw [hT_g]; rfl) rfl rfl rfl dX4_copyFrom_67 (va_up_self _ _ _) (by rw [e_r8, va_up_up]) ?_
  have E : Z = r8 := by subst e_r8; subst e_r7; subst e_r6; subst e_r5; subst e_r4; subst e_r3; subst e_r2; subst e_r1; exact hZ.symm.trans (rfl)
  exact q_vret X hret dX4_copyFrom_70 rfl (by rw [E])
def S_X4_startBatch (ρ : Nat → Int32) (ma : Int32) : (Nat → Int32) := let r1 : Nat → Int32 := S_X0_start ρ ma (ρ 3); let r2 : Nat → Int32 := va_up r1 1 1; va_up r2 13 0
set_option maxRecDepth 100000 in
set_option maxHeartbeats 4000000 in
theorem c_X4_startBatch {G : Geo} {l : Launch} (hG : GOK G) {g : Nat} {h : Hp} {ρ : Nat → Int32} (ma : Int32) (hT_g : gT G g = 2) (hr_g : h g = ρ) : CM G l yX4_startBatch cX4_startBatch 2 none 2 45 [.ref (gA G g 0), .int ma] h (va_up h g (S_X4_startBatch ρ ma)) none := by
  obtain ⟨Z, hZ⟩ : ∃ Z, S_X4_startBatch ρ ma = Z := ⟨_, rfl⟩
  rw [hZ]
  refine q_enter hG mf_X4_startBatch (Nat.le_of_ble_eq_true rfl) ?_
  intro p e s m below meth c X hret
  refine q_lv (lv2 := [(0, .ref (gA G g 0)), (1, .int ma)]) rfl ?_
  refine q_aload_n X 0 dX4_startBatch_0 rfl ?_
  refine q_get (fk := 1) (v := .ref (gA G g 2)) X cf_X4 (ac_2_0 hT_g) (by decide) fl_X4_21 rfl rfl dX4_startBatch_1 rfl ?_
  refine q_iload_n X 1 dX4_startBatch_4 rfl ?_
  refine q_aload_n X 0 dX4_startBatch_5 rfl ?_
  refine q_get (fk := 0) (v := .ref (gA G g 1)) X cf_X4 (ac_2_0 hT_g) (by decide) fl_X4_12 rfl rfl dX4_startBatch_6 rfl ?_
  refine q_geti (fk := 0) (x := ρ 3) X cf_X5 (ac_2_1 hT_g) (by decide) fl_X4_51 rfl rfl dX4_startBatch_9 (hr_g) rfl ?_
  obtain ⟨r1, e_r1⟩ : ∃ z : Nat → Int32, z = S_X0_start ρ ma (ρ 3) := ⟨_, rfl⟩
  refine q_callV (h1 := _) (rest := []) (As := [.int ma, .int (ρ 3)]) X (c_X0_start (l := l) hG (ρ := ρ)  ma (ρ 3) hT_g (hr_g)) mf_X0_start mv_X0_start cf_X0 rfl (ac_2_2 hT_g) lk_X4_54 rfl ⟨by decide, by decide⟩ ⟨Nat.le_refl _, Nat.le_refl _⟩ rfl (Nat.le_of_ble_eq_true rfl) dX4_startBatch_12 (st2 := []) rfl ?_
  refine q_eq (h2 := va_up h g r1) (by rw [e_r1]) rfl ?_
  refine q_aload_n X 0 dX4_startBatch_15 rfl ?_
  refine q_iconst (v := 1) X dX4_startBatch_16 (by decide) ?_
  obtain ⟨r2, e_r2⟩ : ∃ z : Nat → Int32, z = va_up r1 1 1 := ⟨_, rfl⟩
  refine q_put (fk := 3) (h2 := va_up h g r2) X cf_X4 (ac_2_0 hT_g) (by decide) fl_X4_29 rfl rfl (by rw [hT_g]; rfl) rfl rfl rfl dX4_startBatch_17 (va_up_self _ _ _) (by rw [e_r2, va_up_up]) ?_
  refine q_aload_n X 0 dX4_startBatch_20 rfl ?_
  refine q_iconst (v := 0) X dX4_startBatch_21 (by decide) ?_
  obtain ⟨r3, e_r3⟩ : ∃ z : Nat → Int32, z = va_up r2 13 0 := ⟨_, rfl⟩
  refine q_put (fk := 7) (h2 := va_up h g r3) X cf_X4 (ac_2_0 hT_g) (by decide) fl_X4_41 rfl rfl (by rw [hT_g]; rfl) rfl rfl rfl dX4_startBatch_22 (va_up_self _ _ _) (by rw [e_r3, va_up_up]) ?_
  have E : Z = r3 := by subst e_r3; subst e_r2; subst e_r1; exact hZ.symm.trans (rfl)
  exact q_vret X hret dX4_startBatch_25 rfl (by rw [E])
def S_X4_moveDrum (ρ : Nat → Int32) : (Nat → Int32) := let r1 : Nat → Int32 := va_up ρ 2 ((ρ 2) + (S_J9_floorDiv_7cf53 ((8 * (ρ 7)) - (S_J9_floorDiv_7cf53 ((ρ 2) - (ρ 3)) 5)) 10)); if (r1 1) = 1 then (va_up r1 2 ((r1 2) - (S_J9_floorDiv_7cf53 (((ρ 2) - (r1 16)) * (r1 17)) 20000))) else (r1)
set_option maxRecDepth 100000 in
set_option maxHeartbeats 4000000 in
theorem c_X4_moveDrum {G : Geo} {l : Launch} (hG : GOK G) {g : Nat} {h : Hp} {ρ : Nat → Int32} (hT_g : gT G g = 2) (hr_g : h g = ρ) : CM G l yX4_moveDrum cX4_moveDrum 3 none 1 22 [.ref (gA G g 0)] h (va_up h g (S_X4_moveDrum ρ)) none := by
  obtain ⟨Z, hZ⟩ : ∃ Z, S_X4_moveDrum ρ = Z := ⟨_, rfl⟩
  rw [hZ]
  refine q_enter hG mf_X4_moveDrum (Nat.le_of_ble_eq_true rfl) ?_
  intro p e s m below meth c X hret
  refine q_lv (lv2 := [(0, .ref (gA G g 0))]) rfl ?_
  refine q_aload_n X 0 dX4_moveDrum_0 rfl ?_
  refine q_geti (fk := 4) (x := ρ 2) X cf_X4 (ac_2_0 hT_g) (by decide) fl_X4_32 rfl rfl dX4_moveDrum_1 (hr_g) rfl ?_
  refine q_istore_n (lv' := [(1, .int (ρ 2)), (0, .ref (gA G g 0))]) X dX4_moveDrum_4 (by decide) rfl ?_
  refine q_iload_n X 0 dX4_moveDrum_5 rfl ?_
  refine q_aload_n X 1 dX4_moveDrum_6 rfl ?_
  refine q_get (fk := 0) (v := .ref (gA G g 1)) X cf_X4 (ac_2_0 hT_g) (by decide) fl_X4_12 rfl rfl dX4_moveDrum_7 rfl ?_
  refine q_geti (fk := 0) (x := ρ 3) X cf_X5 (ac_2_1 hT_g) (by decide) fl_X4_51 rfl rfl dX4_moveDrum_10 (hr_g) rfl ?_
  refine q_isub X dX4_moveDrum_13 ?_
  refine q_iconst (v := 5) X dX4_moveDrum_14 (by decide) ?_
  refine q_callS (h1 := _) (rest := []) (As := [.int ((ρ 2) - (ρ 3)), .int 5]) X (c_J9_floorDiv_7cf53 (l := l) hG   ((ρ 2) - (ρ 3)) 5 (by decide)) mf_J9_floorDiv_7cf53 ms_J9_floorDiv_7cf53 lk_X4_124 rfl ⟨by decide, by decide⟩ ⟨Nat.le_refl _, Nat.le_refl _⟩ rfl (Nat.le_of_ble_eq_true rfl) dX4_moveDrum_15 (st2 := [.int (S_J9_floorDiv_7cf53 ((ρ 2) - (ρ 3)) 5)]) rfl ?_
  refine q_istore_n (lv' := [(2, .int (S_J9_floorDiv_7cf53 ((ρ 2) - (ρ 3)) 5)), (1, .int (ρ 2)), (0, .ref (gA G g 0))]) X dX4_moveDrum_18 (by decide) rfl ?_
  refine q_aload_n X 2 dX4_moveDrum_19 rfl ?_
  refine q_iload_n X 1 dX4_moveDrum_20 rfl ?_
  refine q_bipush (v := 8) X dX4_moveDrum_21 (by decide) ?_
  refine q_aload_n X 2 dX4_moveDrum_23 rfl ?_
  refine q_geti (fk := 6) (x := ρ 7) X cf_X4 (ac_2_0 hT_g) (by decide) fl_X4_38 rfl rfl dX4_moveDrum_24 (hr_g) rfl ?_
  refine q_imul X dX4_moveDrum_27 ?_
  refine q_iload_n X 0 dX4_moveDrum_28 rfl ?_
  refine q_isub X dX4_moveDrum_29 ?_
  refine q_bipush (v := 10) X dX4_moveDrum_30 (by decide) ?_
  refine q_callS (h1 := _) (rest := [.int (ρ 2), .ref (gA G g 0)]) (As := [.int ((8 * (ρ 7)) - (S_J9_floorDiv_7cf53 ((ρ 2) - (ρ 3)) 5)), .int 10]) X (c_J9_floorDiv_7cf53 (l := l) hG   ((8 * (ρ 7)) - (S_J9_floorDiv_7cf53 ((ρ 2) - (ρ 3)) 5)) 10 (by decide)) mf_J9_floorDiv_7cf53 ms_J9_floorDiv_7cf53 lk_X4_124 rfl ⟨by decide, by decide⟩ ⟨Nat.le_refl _, Nat.le_refl _⟩ rfl (Nat.le_of_ble_eq_true rfl) dX4_moveDrum_32 (st2 := [.int (S_J9_floorDiv_7cf53 ((8 * (ρ 7)) - (S_J9_floorDiv_7cf53 ((ρ 2) - (ρ 3)) 5)) 10), .int (ρ 2), .ref (gA G g 0)]) rfl ?_
  refine q_iadd X dX4_moveDrum_35 ?_
  obtain ⟨r1, e_r1⟩ : ∃ z : Nat → Int32, z = va_up ρ 2 ((ρ 2) + (S_J9_floorDiv_7cf53 ((8 * (ρ 7)) - (S_J9_floorDiv_7cf53 ((ρ 2) - (ρ 3)) 5)) 10)) := ⟨_, rfl⟩
  refine q_put (fk := 4) (h2 := va_up h g r1) X cf_X4 (ac_2_0 hT_g) (by decide) fl_X4_32 rfl rfl (by rw [hT_g]; rfl) rfl rfl rfl dX4_moveDrum_36 (hr_g) (by rw [e_r1]) ?_
  refine q_aload_n X 2 dX4_moveDrum_39 rfl ?_
  refine q_geti (fk := 3) (x := r1 1) X cf_X4 (ac_2_0 hT_g) (by decide) fl_X4_29 rfl rfl dX4_moveDrum_40 (va_up_self _ _ _) rfl ?_
  refine q_iconst (v := 1) X dX4_moveDrum_43 (by decide) ?_
  suffices hJ5 : ∀ (m3 : Nat → Int32), m3 = (if (r1 1) = 1 then (va_up r1 2 ((r1 2) - (S_J9_floorDiv_7cf53 (((ρ 2) - (r1 16)) * (r1 17)) 20000))) else (r1)) → VV G (AA G) p l e { frames := 1, cells := 0, slots := 0, locals := 22 } s m ([.ref (gA G g 0)] : List Value).toArray below meth c 0 0 (MQ below (QC G (va_up h g Z) none) ([.ref (gA G g 0)] : List Value).toArray s 0 0 (AA G)) 3 (va_up h g m3) 79 [(2, .int (S_J9_floorDiv_7cf53 ((ρ 2) - (ρ 3)) 5)), (1, .int (ρ 2)), (0, .ref (gA G g 0))] [] by
    refine q_icmp_ne (tgt := 79) X dX4_moveDrum_44 (by decide) (fun c2 => ?_) (fun c2 => ?_)
    · skip
      refine q_sub (lv2 := [(2, .int (S_J9_floorDiv_7cf53 ((ρ 2) - (ρ 3)) 5)), (1, .int (ρ 2)), (0, .ref (gA G g 0))]) [0, 1, 2] rfl ?_
      exact hJ5 r1 (by exact ((if_neg c2).trans rfl).symm)
    · skip
      refine q_aload_n X 2 dX4_moveDrum_47 rfl ?_
      refine q_dup X dX4_moveDrum_48 rfl ?_
      refine q_geti (fk := 4) (x := r1 2) X cf_X4 (ac_2_0 hT_g) (by decide) fl_X4_32 rfl rfl dX4_moveDrum_49 (va_up_self _ _ _) rfl ?_
      refine q_iload_n X 1 dX4_moveDrum_52 rfl ?_
      refine q_aload_n X 2 dX4_moveDrum_53 rfl ?_
      refine q_get (fk := 1) (v := .ref (gA G g 2)) X cf_X4 (ac_2_0 hT_g) (by decide) fl_X4_21 rfl rfl dX4_moveDrum_54 rfl ?_
      refine q_geti (fk := 0) (x := r1 16) X cf_X0 (ac_2_2 hT_g) (by decide) fl_X4_81 rfl rfl dX4_moveDrum_57 (va_up_self _ _ _) rfl ?_
      refine q_isub X dX4_moveDrum_60 ?_
      refine q_aload_n X 2 dX4_moveDrum_61 rfl ?_
      refine q_get (fk := 1) (v := .ref (gA G g 2)) X cf_X4 (ac_2_0 hT_g) (by decide) fl_X4_21 rfl rfl dX4_moveDrum_62 rfl ?_
      refine q_geti (fk := 1) (x := r1 17) X cf_X0 (ac_2_2 hT_g) (by decide) fl_X4_133 rfl rfl dX4_moveDrum_65 (va_up_self _ _ _) rfl ?_
      refine q_imul X dX4_moveDrum_68 ?_
      refine q_sipush (v := 20000) X dX4_moveDrum_69 (by decide) ?_
      refine q_callS (h1 := _) (rest := [.int (r1 2), .ref (gA G g 0)]) (As := [.int (((ρ 2) - (r1 16)) * (r1 17)), .int 20000]) X (c_J9_floorDiv_7cf53 (l := l) hG   (((ρ 2) - (r1 16)) * (r1 17)) 20000 (by decide)) mf_J9_floorDiv_7cf53 ms_J9_floorDiv_7cf53 lk_X4_124 rfl ⟨by decide, by decide⟩ ⟨Nat.le_refl _, Nat.le_refl _⟩ rfl (Nat.le_of_ble_eq_true rfl) dX4_moveDrum_72 (st2 := [.int (S_J9_floorDiv_7cf53 (((ρ 2) - (r1 16)) * (r1 17)) 20000), .int (r1 2), .ref (gA G g 0)]) rfl ?_
      refine q_isub X dX4_moveDrum_75 ?_
      obtain ⟨r4, e_r4⟩ : ∃ z : Nat → Int32, z = va_up r1 2 ((r1 2) - (S_J9_floorDiv_7cf53 (((ρ 2) - (r1 16)) * (r1 17)) 20000)) := ⟨_, rfl⟩
      refine q_put (fk := 4) (h2 := va_up h g r4) X cf_X4 (ac_2_0 hT_g) (by decide) fl_X4_32 rfl rfl (by rw [hT_g]; rfl) rfl rfl rfl dX4_moveDrum_76 (va_up_self _ _ _) (by rw [e_r4, va_up_up]) ?_
      refine q_sub (lv2 := [(2, .int (S_J9_floorDiv_7cf53 ((ρ 2) - (ρ 3)) 5)), (1, .int (ρ 2)), (0, .ref (gA G g 0))]) [0, 1, 2] rfl ?_
      exact hJ5 r4 (by subst e_r4; exact ((if_pos c2).trans rfl).symm)
  intro m3 e_m3
  have E : Z = m3 := by subst e_m3; subst e_r1; exact hZ.symm.trans (rfl)
  exact q_vret X hret dX4_moveDrum_79 rfl (by rw [E])
def S_X4_moveProbe (ρ : Nat → Int32) : (Nat → Int32) := let m2 : Int32 := if (ρ 1) = 1 then (ρ 16) else (ρ 2); va_up ρ 4 ((ρ 4) + (Int64.toInt32 (S_X9_quotient (Int32.toInt64 (m2 - (ρ 4))) (Int32.toInt64 (ρ 5)))))
set_option maxRecDepth 100000 in
set_option maxHeartbeats 4000000 in
theorem c_X4_moveProbe {G : Geo} {l : Launch} (hG : GOK G) {g : Nat} {h : Hp} {ρ : Nat → Int32} (hT_g : gT G g = 2) (hr_g : h g = ρ) : CM G l yX4_moveProbe cX4_moveProbe 2 none 2 48 [.ref (gA G g 0)] h (va_up h g (S_X4_moveProbe ρ)) none := by
  obtain ⟨Z, hZ⟩ : ∃ Z, S_X4_moveProbe ρ = Z := ⟨_, rfl⟩
  rw [hZ]
  refine q_enter hG mf_X4_moveProbe (Nat.le_of_ble_eq_true rfl) ?_
  intro p e s m below meth c X hret
  refine q_lv (lv2 := [(0, .ref (gA G g 0))]) rfl ?_
  refine q_aload_n X 0 dX4_moveProbe_0 rfl ?_
  refine q_geti (fk := 3) (x := ρ 1) X cf_X4 (ac_2_0 hT_g) (by decide) fl_X4_29 rfl rfl dX4_moveProbe_1 (hr_g) rfl ?_
  refine q_iconst (v := 1) X dX4_moveProbe_4 (by decide) ?_
  suffices hJ3 : ∀ (m2 : Int32), m2 = (if (ρ 1) = 1 then (ρ 16) else (ρ 2)) → VV G (AA G) p l e { frames := 2, cells := 0, slots := 0, locals := 48 } s m ([.ref (gA G g 0)] : List Value).toArray below meth c 0 0 (MQ below (QC G (va_up h g Z) none) ([.ref (gA G g 0)] : List Value).toArray s 0 0 (AA G)) 2 h 22 [(0, .ref (gA G g 0))] [.int m2] by
    refine q_icmp_ne (tgt := 18) X dX4_moveProbe_5 (by decide) (fun c1 => ?_) (fun c1 => ?_)
    · skip
      refine q_aload_n X 0 dX4_moveProbe_18 rfl ?_
      refine q_geti (fk := 4) (x := ρ 2) X cf_X4 (ac_2_0 hT_g) (by decide) fl_X4_32 rfl rfl dX4_moveProbe_19 (hr_g) rfl ?_
      refine q_sub (lv2 := [(0, .ref (gA G g 0))]) [0] rfl ?_
      exact hJ3 (ρ 2) (by exact ((if_neg c1).trans rfl).symm)
    · skip
      refine q_aload_n X 0 dX4_moveProbe_8 rfl ?_
      refine q_get (fk := 1) (v := .ref (gA G g 2)) X cf_X4 (ac_2_0 hT_g) (by decide) fl_X4_21 rfl rfl dX4_moveProbe_9 rfl ?_
      refine q_geti (fk := 0) (x := ρ 16) X cf_X0 (ac_2_2 hT_g) (by decide) fl_X4_81 rfl rfl dX4_moveProbe_12 (hr_g) rfl ?_
      refine q_goto (tgt := 22) X dX4_moveProbe_15 (by decide) ?_
      refine q_sub (lv2 := [(0, .ref (gA G g 0))]) [0] rfl ?_
      exact hJ3 (ρ 16) (by exact ((if_pos c1).trans rfl).symm)
  intro m2 e_m2
  refine q_istore_n (lv' := [(1, .int m2), (0, .ref (gA G g 0))]) X dX4_moveProbe_22 (by decide) rfl ?_
  refine q_aload_n X 1 dX4_moveProbe_23 rfl ?_
  refine q_dup X dX4_moveProbe_24 rfl ?_
  refine q_geti (fk := 5) (x := ρ 4) X cf_X4 (ac_2_0 hT_g) (by decide) fl_X4_35 rfl rfl dX4_moveProbe_25 (hr_g) rfl ?_
  refine q_iload_n X 0 dX4_moveProbe_28 rfl ?_
  refine q_aload_n X 1 dX4_moveProbe_29 rfl ?_
  refine q_geti (fk := 5) (x := ρ 4) X cf_X4 (ac_2_0 hT_g) (by decide) fl_X4_35 rfl rfl dX4_moveProbe_30 (hr_g) rfl ?_
  refine q_isub X dX4_moveProbe_33 ?_
  refine q_i2l X dX4_moveProbe_34 ?_
  refine q_aload_n X 1 dX4_moveProbe_35 rfl ?_
  refine q_get (fk := 0) (v := .ref (gA G g 1)) X cf_X4 (ac_2_0 hT_g) (by decide) fl_X4_12 rfl rfl dX4_moveProbe_36 rfl ?_
  refine q_geti (fk := 5) (x := ρ 5) X cf_X5 (ac_2_1 hT_g) (by decide) fl_X4_136 rfl rfl dX4_moveProbe_39 (hr_g) rfl ?_
  refine q_i2l X dX4_moveProbe_42 ?_
  refine q_callSN (h1 := _) (rest := [.int (ρ 4), .ref (gA G g 0)]) (As := [.long (Int32.toInt64 (m2 - (ρ 4))), .long (Int32.toInt64 (ρ 5))]) X (c_X9_quotient (l := l) hG   (Int32.toInt64 (m2 - (ρ 4))) (Int32.toInt64 (ρ 5)) ) mf_X9_quotient ms_X9_quotient ln_X4_139 rfl ⟨by decide, by decide⟩ ⟨Nat.le_refl _, Nat.le_refl _⟩ rfl (Nat.le_of_ble_eq_true rfl) dX4_moveProbe_43 (st2 := [.long (S_X9_quotient (Int32.toInt64 (m2 - (ρ 4))) (Int32.toInt64 (ρ 5))), .int (ρ 4), .ref (gA G g 0)]) rfl ?_
  refine q_l2i X dX4_moveProbe_46 ?_
  refine q_iadd X dX4_moveProbe_47 ?_
  obtain ⟨r4, e_r4⟩ : ∃ z : Nat → Int32, z = va_up ρ 4 ((ρ 4) + (Int64.toInt32 (S_X9_quotient (Int32.toInt64 (m2 - (ρ 4))) (Int32.toInt64 (ρ 5))))) := ⟨_, rfl⟩
  refine q_put (fk := 5) (h2 := va_up h g r4) X cf_X4 (ac_2_0 hT_g) (by decide) fl_X4_35 rfl rfl (by rw [hT_g]; rfl) rfl rfl rfl dX4_moveProbe_48 (hr_g) (by rw [e_r4]) ?_
  have E : Z = r4 := by subst e_r4; subst e_m2; exact hZ.symm.trans (rfl)
  exact q_vret X hret dX4_moveProbe_51 rfl (by rw [E])
def S_X4_steer (ρ : Nat → Int32) (π : Nat → Int32) : (Nat → Int32) := if (ρ 9) = 1 then (if (π 0) = 0 then (ρ) else (let r3 : Nat → Int32 := va_up ρ 13 (S_X9_clamp ((ρ 13) + ((S_X6_valueOnLine π 8 (ρ 18)) - (ρ 4))) (-20000) 20000); va_up r3 7 (S_X9_clamp (((r3 12) + (S_J9_floorDiv_7cf53 ((r3 10) * ((S_X6_valueOnLine π 8 (ρ 18)) - (ρ 4))) 100)) + (S_J9_floorDiv_7cf53 ((r3 11) * (r3 13)) 1000)) 0 100))) else (ρ)
set_option maxRecDepth 100000 in
set_option maxHeartbeats 4000000 in
theorem c_X4_steer {G : Geo} {l : Launch} (hG : GOK G) {g : Nat} {h : Hp} {ρ : Nat → Int32} {π : Nat → Int32} (hK : KT G) (hT_g : gT G g = 2) (hr_g : h g = ρ) (hr_3 : h 3 = π) : CM G l yX4_steer cX4_steer 4 none 3 73 [.ref (gA G g 0), .ref (gA G 3 0)] h (va_up h g (S_X4_steer ρ π)) none := by
  obtain ⟨Z, hZ⟩ : ∃ Z, S_X4_steer ρ π = Z := ⟨_, rfl⟩
  rw [hZ]
  refine q_enter hG mf_X4_steer (Nat.le_of_ble_eq_true rfl) ?_
  intro p e s m below meth c X hret
  have hT_3 : gT G 3 = 3 := hK 3 (by decide)
  refine q_lv (lv2 := [(0, .ref (gA G g 0)), (1, .ref (gA G 3 0))]) rfl ?_
  refine q_aload_n X 0 dX4_steer_0 rfl ?_
  refine q_get (fk := 0) (v := .ref (gA G g 1)) X cf_X4 (ac_2_0 hT_g) (by decide) fl_X4_12 rfl rfl dX4_steer_1 rfl ?_
  refine q_geti (fk := 1) (x := ρ 9) X cf_X5 (ac_2_1 hT_g) (by decide) fl_X4_105 rfl rfl dX4_steer_4 (hr_g) rfl ?_
  refine q_iconst (v := 1) X dX4_steer_7 (by decide) ?_
  refine q_icmp_ne (tgt := 18) X dX4_steer_8 (by decide) (fun c1 => ?_) (fun c1 => ?_)
  · skip
    have E : Z = ρ := by exact hZ.symm.trans ((if_neg c1).trans rfl)
    exact q_vret X hret dX4_steer_18 rfl (by rw [E]; exact va_up_id2 (hr_g))
  · skip
    refine q_aload_n X 1 dX4_steer_11 rfl ?_
    refine q_geti (fk := 2) (x := π 0) X cf_X6 (ac_3_0 hT_3) (by decide) fl_X4_108 rfl rfl dX4_steer_12 (hr_3) rfl ?_
    refine q_if_ne (tgt := 19) X dX4_steer_15 (by decide) (fun c2 => ?_) (fun c2 => ?_)
    · skip
      refine q_aload_n X 1 dX4_steer_19 rfl ?_
      refine q_aload_n X 0 dX4_steer_20 rfl ?_
      refine q_get (fk := 1) (v := .ref (gA G g 2)) X cf_X4 (ac_2_0 hT_g) (by decide) fl_X4_21 rfl rfl dX4_steer_21 rfl ?_
      refine q_geti (fk := 2) (x := ρ 18) X cf_X0 (ac_2_2 hT_g) (by decide) fl_X4_58 rfl rfl dX4_steer_24 (hr_g) rfl ?_
      refine q_callV (h1 := _) (rest := []) (As := [.int (ρ 18)]) X (c_X6_valueOnLine (l := l) hG (ρ := π) (n := 8) (ρ 18) hT_3 (hr_3) (by rw [hT_3]; rfl)) mf_X6_valueOnLine mv_X6_valueOnLine cf_X6 rfl (ac_3_0 hT_3) lk_X4_111 rfl ⟨by decide, by decide⟩ ⟨Nat.le_refl _, Nat.le_refl _⟩ rfl (Nat.le_of_ble_eq_true rfl) dX4_steer_27 (st2 := [.int (S_X6_valueOnLine π 8 (ρ 18))]) rfl ?_
      refine q_aload_n X 0 dX4_steer_30 rfl ?_
      refine q_geti (fk := 5) (x := ρ 4) X cf_X4 (ac_2_0 hT_g) (by decide) fl_X4_35 rfl rfl dX4_steer_31 (hr_g) rfl ?_
      refine q_isub X dX4_steer_34 ?_
      refine q_istore_n (lv' := [(2, .int ((S_X6_valueOnLine π 8 (ρ 18)) - (ρ 4))), (0, .ref (gA G g 0)), (1, .ref (gA G 3 0))]) X dX4_steer_35 (by decide) rfl ?_
      refine q_aload_n X 1 dX4_steer_36 rfl ?_
      refine q_aload_n X 1 dX4_steer_37 rfl ?_
      refine q_geti (fk := 7) (x := ρ 13) X cf_X4 (ac_2_0 hT_g) (by decide) fl_X4_41 rfl rfl dX4_steer_38 (hr_g) rfl ?_
      refine q_iload_n X 0 dX4_steer_41 rfl ?_
      refine q_iadd X dX4_steer_42 ?_
      refine q_sipush (v := (-20000)) X dX4_steer_43 (by decide) ?_
      refine q_sipush (v := 20000) X dX4_steer_46 (by decide) ?_
      refine q_callSN (h1 := _) (rest := [.ref (gA G g 0)]) (As := [.int ((ρ 13) + ((S_X6_valueOnLine π 8 (ρ 18)) - (ρ 4))), .int (-20000), .int 20000]) X (c_X9_clamp (l := l) hG   ((ρ 13) + ((S_X6_valueOnLine π 8 (ρ 18)) - (ρ 4))) (-20000) 20000 ) mf_X9_clamp ms_X9_clamp ln_X4_114 rfl ⟨by decide, by decide⟩ ⟨Nat.le_refl _, Nat.le_refl _⟩ rfl (Nat.le_of_ble_eq_true rfl) dX4_steer_49 (st2 := [.int (S_X9_clamp ((ρ 13) + ((S_X6_valueOnLine π 8 (ρ 18)) - (ρ 4))) (-20000) 20000), .ref (gA G g 0)]) rfl ?_
      obtain ⟨r3, e_r3⟩ : ∃ z : Nat → Int32, z = va_up ρ 13 (S_X9_clamp ((ρ 13) + ((S_X6_valueOnLine π 8 (ρ 18)) - (ρ 4))) (-20000) 20000) := ⟨_, rfl⟩
      refine q_put (fk := 7) (h2 := va_up h g r3) X cf_X4 (ac_2_0 hT_g) (by decide) fl_X4_41 rfl rfl (by rw [hT_g]; rfl) rfl rfl rfl dX4_steer_52 (hr_g) (by rw [e_r3]) ?_
      refine q_aload_n X 1 dX4_steer_55 rfl ?_
      refine q_get (fk := 0) (v := .ref (gA G g 1)) X cf_X4 (ac_2_0 hT_g) (by decide) fl_X4_12 rfl rfl dX4_steer_56 rfl ?_
      refine q_geti (fk := 4) (x := r3 12) X cf_X5 (ac_2_1 hT_g) (by decide) fl_X4_118 rfl rfl dX4_steer_59 (va_up_self _ _ _) rfl ?_
      refine q_aload_n X 1 dX4_steer_62 rfl ?_
      refine q_get (fk := 0) (v := .ref (gA G g 1)) X cf_X4 (ac_2_0 hT_g) (by decide) fl_X4_12 rfl rfl dX4_steer_63 rfl ?_
      refine q_geti (fk := 2) (x := r3 10) X cf_X5 (ac_2_1 hT_g) (by decide) fl_X4_121 rfl rfl dX4_steer_66 (va_up_self _ _ _) rfl ?_
      refine q_iload_n X 0 dX4_steer_69 rfl ?_
      refine q_imul X dX4_steer_70 ?_
      refine q_bipush (v := 100) X dX4_steer_71 (by decide) ?_
      refine q_callS (h1 := _) (rest := [.int (r3 12)]) (As := [.int ((r3 10) * ((S_X6_valueOnLine π 8 (ρ 18)) - (ρ 4))), .int 100]) X (c_J9_floorDiv_7cf53 (l := l) hG   ((r3 10) * ((S_X6_valueOnLine π 8 (ρ 18)) - (ρ 4))) 100 (by decide)) mf_J9_floorDiv_7cf53 ms_J9_floorDiv_7cf53 lk_X4_124 rfl ⟨by decide, by decide⟩ ⟨Nat.le_refl _, Nat.le_refl _⟩ rfl (Nat.le_of_ble_eq_true rfl) dX4_steer_73 (st2 := [.int (S_J9_floorDiv_7cf53 ((r3 10) * ((S_X6_valueOnLine π 8 (ρ 18)) - (ρ 4))) 100), .int (r3 12)]) rfl ?_
      refine q_iadd X dX4_steer_76 ?_
      refine q_aload_n X 1 dX4_steer_77 rfl ?_
      refine q_get (fk := 0) (v := .ref (gA G g 1)) X cf_X4 (ac_2_0 hT_g) (by decide) fl_X4_12 rfl rfl dX4_steer_78 rfl ?_
      refine q_geti (fk := 3) (x := r3 11) X cf_X5 (ac_2_1 hT_g) (by decide) fl_X4_130 rfl rfl dX4_steer_81 (va_up_self _ _ _) rfl ?_
      refine q_aload_n X 1 dX4_steer_84 rfl ?_
      refine q_geti (fk := 7) (x := r3 13) X cf_X4 (ac_2_0 hT_g) (by decide) fl_X4_41 rfl rfl dX4_steer_85 (va_up_self _ _ _) rfl ?_
      refine q_imul X dX4_steer_88 ?_
      refine q_sipush (v := 1000) X dX4_steer_89 (by decide) ?_
      refine q_callS (h1 := _) (rest := [.int ((r3 12) + (S_J9_floorDiv_7cf53 ((r3 10) * ((S_X6_valueOnLine π 8 (ρ 18)) - (ρ 4))) 100))]) (As := [.int ((r3 11) * (r3 13)), .int 1000]) X (c_J9_floorDiv_7cf53 (l := l) hG   ((r3 11) * (r3 13)) 1000 (by decide)) mf_J9_floorDiv_7cf53 ms_J9_floorDiv_7cf53 lk_X4_124 rfl ⟨by decide, by decide⟩ ⟨Nat.le_refl _, Nat.le_refl _⟩ rfl (Nat.le_of_ble_eq_true rfl) dX4_steer_92 (st2 := [.int (S_J9_floorDiv_7cf53 ((r3 11) * (r3 13)) 1000), .int ((r3 12) + (S_J9_floorDiv_7cf53 ((r3 10) * ((S_X6_valueOnLine π 8 (ρ 18)) - (ρ 4))) 100))]) rfl ?_
      refine q_iadd X dX4_steer_95 ?_
      refine q_istore_n (lv' := [(3, .int (((r3 12) + (S_J9_floorDiv_7cf53 ((r3 10) * ((S_X6_valueOnLine π 8 (ρ 18)) - (ρ 4))) 100)) + (S_J9_floorDiv_7cf53 ((r3 11) * (r3 13)) 1000))), (2, .int ((S_X6_valueOnLine π 8 (ρ 18)) - (ρ 4))), (0, .ref (gA G g 0)), (1, .ref (gA G 3 0))]) X dX4_steer_96 (by decide) rfl ?_
      refine q_aload_n X 2 dX4_steer_97 rfl ?_
      refine q_iload_n X 0 dX4_steer_98 rfl ?_
      refine q_iconst (v := 0) X dX4_steer_99 (by decide) ?_
      refine q_bipush (v := 100) X dX4_steer_100 (by decide) ?_
      refine q_callSN (h1 := _) (rest := [.ref (gA G g 0)]) (As := [.int (((r3 12) + (S_J9_floorDiv_7cf53 ((r3 10) * ((S_X6_valueOnLine π 8 (ρ 18)) - (ρ 4))) 100)) + (S_J9_floorDiv_7cf53 ((r3 11) * (r3 13)) 1000)), .int 0, .int 100]) X (c_X9_clamp (l := l) hG   (((r3 12) + (S_J9_floorDiv_7cf53 ((r3 10) * ((S_X6_valueOnLine π 8 (ρ 18)) - (ρ 4))) 100)) + (S_J9_floorDiv_7cf53 ((r3 11) * (r3 13)) 1000)) 0 100 ) mf_X9_clamp ms_X9_clamp ln_X4_114 rfl ⟨by decide, by decide⟩ ⟨Nat.le_refl _, Nat.le_refl _⟩ rfl (Nat.le_of_ble_eq_true rfl) dX4_steer_102 (st2 := [.int (S_X9_clamp (((r3 12) + (S_J9_floorDiv_7cf53 ((r3 10) * ((S_X6_valueOnLine π 8 (ρ 18)) - (ρ 4))) 100)) + (S_J9_floorDiv_7cf53 ((r3 11) * (r3 13)) 1000)) 0 100), .ref (gA G g 0)]) rfl ?_
      obtain ⟨r4, e_r4⟩ : ∃ z : Nat → Int32, z = va_up r3 7 (S_X9_clamp (((r3 12) + (S_J9_floorDiv_7cf53 ((r3 10) * ((S_X6_valueOnLine π 8 (ρ 18)) - (ρ 4))) 100)) + (S_J9_floorDiv_7cf53 ((r3 11) * (r3 13)) 1000)) 0 100) := ⟨_, rfl⟩
      refine q_put (fk := 6) (h2 := va_up h g r4) X cf_X4 (ac_2_0 hT_g) (by decide) fl_X4_38 rfl rfl (by rw [hT_g]; rfl) rfl rfl rfl dX4_steer_105 (va_up_self _ _ _) (by rw [e_r4, va_up_up]) ?_
      have E : Z = r4 := by subst e_r4; subst e_r3; exact hZ.symm.trans ((if_pos c1).trans ((if_neg c2).trans rfl))
      exact q_vret X hret dX4_steer_108 rfl (by rw [E])
    · skip
      have E : Z = ρ := by exact hZ.symm.trans ((if_pos c1).trans ((if_pos c2).trans rfl))
      exact q_vret X hret dX4_steer_18 rfl (by rw [E]; exact va_up_id2 (hr_g))
def T_X4_tick_r1 (ρ : Nat → Int32) (π : Nat → Int32) (μ : Nat → Int32) : Nat → Int32 := va_up ρ 0 ((ρ 0) + 1)
def T_X4_tick_m3 (ρ : Nat → Int32) (π : Nat → Int32) (μ : Nat → Int32) : Nat → Int32 := if ((T_X4_tick_r1 ρ π μ) 1) = 1 then (let r4 : Nat → Int32 := va_up (T_X4_tick_r1 ρ π μ) 18 (((T_X4_tick_r1 ρ π μ) 18) + 1); S_X4_steer r4 π) else ((T_X4_tick_r1 ρ π μ))
def T_X4_tick_r7 (ρ : Nat → Int32) (π : Nat → Int32) (μ : Nat → Int32) : Nat → Int32 := S_X4_moveDrum (T_X4_tick_m3 ρ π μ)
def T_X4_tick_m9 (ρ : Nat → Int32) (π : Nat → Int32) (μ : Nat → Int32) : Nat → Int32 := if ((T_X4_tick_r7 ρ π μ) 1) = 1 then (let r12 : Nat → Int32 := S_X0_roast (T_X4_tick_r7 ρ π μ) ((T_X4_tick_r7 ρ π μ) 2); let r13 : Nat → Int32 := S_X0_pop r12 (r12 14); va_up r13 19 ((r13 19) + (S_X6_valueBelow μ 6 (r13 16)))) else (if ((T_X4_tick_r7 ρ π μ) 1) = 2 then (S_X0_cool (T_X4_tick_r7 ρ π μ) ((T_X4_tick_r7 ρ π μ) 3) ((T_X4_tick_r7 ρ π μ) 8)) else ((T_X4_tick_r7 ρ π μ)))
def T_X4_tick_r16 (ρ : Nat → Int32) (π : Nat → Int32) (μ : Nat → Int32) : Nat → Int32 := S_X4_moveProbe (T_X4_tick_m9 ρ π μ)
def T_X4_tick_m18 (ρ : Nat → Int32) (π : Nat → Int32) (μ : Nat → Int32) : Nat → Int32 := if ((T_X4_tick_r16 ρ π μ) 1) = 1 then (S_X0_lookForCrack (T_X4_tick_r16 ρ π μ) ((T_X4_tick_r16 ρ π μ) 15)) else ((T_X4_tick_r16 ρ π μ))
def S_X4_tick (ρ : Nat → Int32) (π : Nat → Int32) (μ : Nat → Int32) : (Nat → Int32) := (T_X4_tick_m18 ρ π μ)
set_option maxRecDepth 100000 in
set_option maxHeartbeats 4000000 in
theorem c_X4_tick {G : Geo} {l : Launch} (hG : GOK G) {g : Nat} {h : Hp} {ρ : Nat → Int32} {π : Nat → Int32} {μ : Nat → Int32} (hK : KT G) (hT_g : gT G g = 2) (hr_g : h g = ρ) (hr_3 : h 3 = π) (hr_4 : h 4 = μ) : CM G l yX4_tick cX4_tick 3 none 4 96 [.ref (gA G g 0), .ref (gA G 3 0), .ref (gA G 4 0)] h (va_up h g (S_X4_tick ρ π μ)) none := by
  obtain ⟨Z, hZ⟩ : ∃ Z, S_X4_tick ρ π μ = Z := ⟨_, rfl⟩
  rw [hZ]
  refine q_enter hG mf_X4_tick (Nat.le_of_ble_eq_true rfl) ?_
  intro p e s m below meth c X hret
  have hT_3 : gT G 3 = 3 := hK 3 (by decide)
  have hT_4 : gT G 4 = 3 := hK 4 (by decide)
  refine q_lv (lv2 := [(0, .ref (gA G g 0)), (1, .ref (gA G 3 0)), (2, .ref (gA G 4 0))]) rfl ?_
  refine q_aload_n X 0 dX4_tick_0 rfl ?_
  refine q_dup X dX4_tick_1 rfl ?_
  refine q_geti (fk := 2) (x := ρ 0) X cf_X4 (ac_2_0 hT_g) (by decide) fl_X4_25 rfl rfl dX4_tick_2 (hr_g) rfl ?_
  refine q_iconst (v := 1) X dX4_tick_5 (by decide) ?_
  refine q_iadd X dX4_tick_6 ?_
  obtain ⟨r1, e_r1⟩ : ∃ z : Nat → Int32, z = va_up ρ 0 ((ρ 0) + 1) := ⟨_, rfl⟩
  refine q_put (fk := 2) (h2 := va_up h g r1) X cf_X4 (ac_2_0 hT_g) (by decide) fl_X4_25 rfl rfl (by rw [hT_g]; rfl) rfl rfl rfl dX4_tick_7 (hr_g) (by rw [e_r1]) ?_
  refine q_aload_n X 0 dX4_tick_10 rfl ?_
  refine q_geti (fk := 3) (x := r1 1) X cf_X4 (ac_2_0 hT_g) (by decide) fl_X4_29 rfl rfl dX4_tick_11 (va_up_self _ _ _) rfl ?_
  refine q_iconst (v := 1) X dX4_tick_14 (by decide) ?_
  suffices hJ6 : ∀ (m3 : Nat → Int32), m3 = (if (r1 1) = 1 then (let r4 : Nat → Int32 := va_up r1 18 ((r1 18) + 1); S_X4_steer r4 π) else (r1)) → VV G (AA G) p l e { frames := 4, cells := 0, slots := 0, locals := 96 } s m ([.ref (gA G g 0), .ref (gA G 3 0), .ref (gA G 4 0)] : List Value).toArray below meth c 0 0 (MQ below (QC G (va_up h g Z) none) ([.ref (gA G g 0), .ref (gA G 3 0), .ref (gA G 4 0)] : List Value).toArray s 0 0 (AA G)) 3 (va_up h g m3) 36 [(0, .ref (gA G g 0)), (1, .ref (gA G 3 0)), (2, .ref (gA G 4 0))] [] by
    refine q_icmp_ne (tgt := 36) X dX4_tick_15 (by decide) (fun c2 => ?_) (fun c2 => ?_)
    · skip
      refine q_sub (lv2 := [(0, .ref (gA G g 0)), (1, .ref (gA G 3 0)), (2, .ref (gA G 4 0))]) [0, 1, 2] rfl ?_
      exact hJ6 r1 (by exact ((if_neg c2).trans rfl).symm)
    · skip
      refine q_aload_n X 0 dX4_tick_18 rfl ?_
      refine q_get (fk := 1) (v := .ref (gA G g 2)) X cf_X4 (ac_2_0 hT_g) (by decide) fl_X4_21 rfl rfl dX4_tick_19 rfl ?_
      refine q_dup X dX4_tick_22 rfl ?_
      refine q_geti (fk := 2) (x := r1 18) X cf_X0 (ac_2_2 hT_g) (by decide) fl_X4_58 rfl rfl dX4_tick_23 (va_up_self _ _ _) rfl ?_
      refine q_iconst (v := 1) X dX4_tick_26 (by decide) ?_
      refine q_iadd X dX4_tick_27 ?_
      obtain ⟨r4, e_r4⟩ : ∃ z : Nat → Int32, z = va_up r1 18 ((r1 18) + 1) := ⟨_, rfl⟩
      refine q_put (fk := 2) (h2 := va_up h g r4) X cf_X0 (ac_2_2 hT_g) (by decide) fl_X4_58 rfl rfl (by rw [hT_g]; rfl) rfl rfl rfl dX4_tick_28 (va_up_self _ _ _) (by rw [e_r4, va_up_up]) ?_
      refine q_aload_n X 0 dX4_tick_31 rfl ?_
      refine q_aload_n X 1 dX4_tick_32 rfl ?_
      obtain ⟨r5, e_r5⟩ : ∃ z : Nat → Int32, z = S_X4_steer r4 π := ⟨_, rfl⟩
      refine q_callV (h1 := _) (rest := []) (As := [.ref (gA G 3 0)]) X (c_X4_steer (l := l) hG (ρ := r4) (π := π)   hK hT_g (va_up_self _ _ _) ((va_up_ne _ _ (ne_ty hT_3 hT_g (by decide))).trans (hr_3))) mf_X4_steer mv_X4_steer cf_X4 rfl (ac_2_0 hT_g) lk_X4_61 rfl ⟨by decide, by decide⟩ ⟨Nat.le_refl _, Nat.le_refl _⟩ rfl (Nat.le_of_ble_eq_true rfl) dX4_tick_33 (st2 := []) rfl ?_
      refine q_eq (h2 := va_up h g r5) (by rw [e_r5]; exact va_up_up _ _ _ _) rfl ?_
      refine q_sub (lv2 := [(0, .ref (gA G g 0)), (1, .ref (gA G 3 0)), (2, .ref (gA G 4 0))]) [0, 1, 2] rfl ?_
      exact hJ6 r5 (by subst e_r5; subst e_r4; exact ((if_pos c2).trans rfl).symm)
  intro m3 e_m3
  refine q_aload_n X 0 dX4_tick_36 rfl ?_
  obtain ⟨r7, e_r7⟩ : ∃ z : Nat → Int32, z = S_X4_moveDrum m3 := ⟨_, rfl⟩
  refine q_callV (h1 := _) (rest := []) (As := []) X (c_X4_moveDrum (l := l) hG (ρ := m3)   hT_g (va_up_self _ _ _)) mf_X4_moveDrum mv_X4_moveDrum cf_X4 rfl (ac_2_0 hT_g) lk_X4_65 rfl ⟨by decide, by decide⟩ ⟨Nat.le_refl _, Nat.le_refl _⟩ rfl (Nat.le_of_ble_eq_true rfl) dX4_tick_37 (st2 := []) rfl ?_
  refine q_eq (h2 := va_up h g r7) (by rw [e_r7]; exact va_up_up _ _ _ _) rfl ?_
  refine q_aload_n X 0 dX4_tick_40 rfl ?_
  refine q_geti (fk := 3) (x := r7 1) X cf_X4 (ac_2_0 hT_g) (by decide) fl_X4_29 rfl rfl dX4_tick_41 (va_up_self _ _ _) rfl ?_
  refine q_iconst (v := 1) X dX4_tick_44 (by decide) ?_
  suffices hJ15 : ∀ (m9 : Nat → Int32), m9 = (if (r7 1) = 1 then (let r12 : Nat → Int32 := S_X0_roast r7 (r7 2); let r13 : Nat → Int32 := S_X0_pop r12 (r12 14); va_up r13 19 ((r13 19) + (S_X6_valueBelow μ 6 (r13 16)))) else (if (r7 1) = 2 then (S_X0_cool r7 (r7 3) (r7 8)) else (r7))) → VV G (AA G) p l e { frames := 4, cells := 0, slots := 0, locals := 96 } s m ([.ref (gA G g 0), .ref (gA G 3 0), .ref (gA G 4 0)] : List Value).toArray below meth c 0 0 (MQ below (QC G (va_up h g Z) none) ([.ref (gA G g 0), .ref (gA G 3 0), .ref (gA G 4 0)] : List Value).toArray s 0 0 (AA G)) 3 (va_up h g m9) 128 [(0, .ref (gA G g 0)), (1, .ref (gA G 3 0)), (2, .ref (gA G 4 0))] [] by
    refine q_icmp_ne (tgt := 99) X dX4_tick_45 (by decide) (fun c8 => ?_) (fun c8 => ?_)
    · skip
      refine q_aload_n X 0 dX4_tick_99 rfl ?_
      refine q_geti (fk := 3) (x := r7 1) X cf_X4 (ac_2_0 hT_g) (by decide) fl_X4_29 rfl rfl dX4_tick_100 (va_up_self _ _ _) rfl ?_
      refine q_iconst (v := 2) X dX4_tick_103 (by decide) ?_
      refine q_icmp_ne (tgt := 128) X dX4_tick_104 (by decide) (fun c10 => ?_) (fun c10 => ?_)
      · skip
        refine q_sub (lv2 := [(0, .ref (gA G g 0)), (1, .ref (gA G 3 0)), (2, .ref (gA G 4 0))]) [0, 1, 2] rfl ?_
        exact hJ15 r7 (by exact ((if_neg c8).trans ((if_neg c10).trans rfl)).symm)
      · skip
        refine q_aload_n X 0 dX4_tick_107 rfl ?_
        refine q_get (fk := 1) (v := .ref (gA G g 2)) X cf_X4 (ac_2_0 hT_g) (by decide) fl_X4_21 rfl rfl dX4_tick_108 rfl ?_
        refine q_aload_n X 0 dX4_tick_111 rfl ?_
        refine q_get (fk := 0) (v := .ref (gA G g 1)) X cf_X4 (ac_2_0 hT_g) (by decide) fl_X4_12 rfl rfl dX4_tick_112 rfl ?_
        refine q_geti (fk := 0) (x := r7 3) X cf_X5 (ac_2_1 hT_g) (by decide) fl_X4_51 rfl rfl dX4_tick_115 (va_up_self _ _ _) rfl ?_
        refine q_aload_n X 0 dX4_tick_118 rfl ?_
        refine q_get (fk := 0) (v := .ref (gA G g 1)) X cf_X4 (ac_2_0 hT_g) (by decide) fl_X4_12 rfl rfl dX4_tick_119 rfl ?_
        refine q_geti (fk := 9) (x := r7 8) X cf_X5 (ac_2_1 hT_g) (by decide) fl_X4_90 rfl rfl dX4_tick_122 (va_up_self _ _ _) rfl ?_
        obtain ⟨r11, e_r11⟩ : ∃ z : Nat → Int32, z = S_X0_cool r7 (r7 3) (r7 8) := ⟨_, rfl⟩
        refine q_callV (h1 := _) (rest := []) (As := [.int (r7 3), .int (r7 8)]) X (c_X0_cool (l := l) hG (ρ := r7)  (r7 3) (r7 8) hT_g (va_up_self _ _ _)) mf_X0_cool mv_X0_cool cf_X0 rfl (ac_2_2 hT_g) lk_X4_93 rfl ⟨by decide, by decide⟩ ⟨Nat.le_refl _, Nat.le_refl _⟩ rfl (Nat.le_of_ble_eq_true rfl) dX4_tick_125 (st2 := []) rfl ?_
        refine q_eq (h2 := va_up h g r11) (by rw [e_r11]; exact va_up_up _ _ _ _) rfl ?_
        refine q_sub (lv2 := [(0, .ref (gA G g 0)), (1, .ref (gA G 3 0)), (2, .ref (gA G 4 0))]) [0, 1, 2] rfl ?_
        exact hJ15 r11 (by subst e_r11; exact ((if_neg c8).trans ((if_pos c10).trans rfl)).symm)
    · skip
      refine q_aload_n X 0 dX4_tick_48 rfl ?_
      refine q_get (fk := 1) (v := .ref (gA G g 2)) X cf_X4 (ac_2_0 hT_g) (by decide) fl_X4_21 rfl rfl dX4_tick_49 rfl ?_
      refine q_aload_n X 0 dX4_tick_52 rfl ?_
      refine q_geti (fk := 4) (x := r7 2) X cf_X4 (ac_2_0 hT_g) (by decide) fl_X4_32 rfl rfl dX4_tick_53 (va_up_self _ _ _) rfl ?_
      obtain ⟨r12, e_r12⟩ : ∃ z : Nat → Int32, z = S_X0_roast r7 (r7 2) := ⟨_, rfl⟩
      refine q_callV (h1 := _) (rest := []) (As := [.int (r7 2)]) X (c_X0_roast (l := l) hG (ρ := r7)  (r7 2) hT_g (va_up_self _ _ _)) mf_X0_roast mv_X0_roast cf_X0 rfl (ac_2_2 hT_g) lk_X4_68 rfl ⟨by decide, by decide⟩ ⟨Nat.le_refl _, Nat.le_refl _⟩ rfl (Nat.le_of_ble_eq_true rfl) dX4_tick_56 (st2 := []) rfl ?_
      refine q_eq (h2 := va_up h g r12) (by rw [e_r12]; exact va_up_up _ _ _ _) rfl ?_
      refine q_aload_n X 0 dX4_tick_59 rfl ?_
      refine q_get (fk := 1) (v := .ref (gA G g 2)) X cf_X4 (ac_2_0 hT_g) (by decide) fl_X4_21 rfl rfl dX4_tick_60 rfl ?_
      refine q_aload_n X 0 dX4_tick_63 rfl ?_
      refine q_get (fk := 0) (v := .ref (gA G g 1)) X cf_X4 (ac_2_0 hT_g) (by decide) fl_X4_12 rfl rfl dX4_tick_64 rfl ?_
      refine q_geti (fk := 7) (x := r12 14) X cf_X5 (ac_2_1 hT_g) (by decide) fl_X4_72 rfl rfl dX4_tick_67 (va_up_self _ _ _) rfl ?_
      obtain ⟨r13, e_r13⟩ : ∃ z : Nat → Int32, z = S_X0_pop r12 (r12 14) := ⟨_, rfl⟩
      refine q_callV (h1 := _) (rest := []) (As := [.int (r12 14)]) X (c_X0_pop (l := l) hG (ρ := r12)  (r12 14) hT_g (va_up_self _ _ _)) mf_X0_pop mv_X0_pop cf_X0 rfl (ac_2_2 hT_g) lk_X4_75 rfl ⟨by decide, by decide⟩ ⟨Nat.le_refl _, Nat.le_refl _⟩ rfl (Nat.le_of_ble_eq_true rfl) dX4_tick_70 (st2 := []) rfl ?_
      refine q_eq (h2 := va_up h g r13) (by rw [e_r13]; exact va_up_up _ _ _ _) rfl ?_
      refine q_aload_n X 0 dX4_tick_73 rfl ?_
      refine q_get (fk := 1) (v := .ref (gA G g 2)) X cf_X4 (ac_2_0 hT_g) (by decide) fl_X4_21 rfl rfl dX4_tick_74 rfl ?_
      refine q_dup X dX4_tick_77 rfl ?_
      refine q_geti (fk := 3) (x := r13 19) X cf_X0 (ac_2_2 hT_g) (by decide) fl_X4_78 rfl rfl dX4_tick_78 (va_up_self _ _ _) rfl ?_
      refine q_aload_n X 2 dX4_tick_81 rfl ?_
      refine q_aload_n X 0 dX4_tick_82 rfl ?_
      refine q_get (fk := 1) (v := .ref (gA G g 2)) X cf_X4 (ac_2_0 hT_g) (by decide) fl_X4_21 rfl rfl dX4_tick_83 rfl ?_
      refine q_geti (fk := 0) (x := r13 16) X cf_X0 (ac_2_2 hT_g) (by decide) fl_X4_81 rfl rfl dX4_tick_86 (va_up_self _ _ _) rfl ?_
      refine q_callV (h1 := _) (rest := [.int (r13 19), .ref (gA G g 2)]) (As := [.int (r13 16)]) X (c_X6_valueBelow (l := l) hG (ρ := μ) (n := 6) (r13 16) hT_4 ((va_up_ne _ _ (ne_ty hT_4 hT_g (by decide))).trans (hr_4)) (by rw [hT_4]; rfl)) mf_X6_valueBelow mv_X6_valueBelow cf_X6 rfl (ac_3_0 hT_4) lk_X4_84 rfl ⟨by decide, by decide⟩ ⟨Nat.le_refl _, Nat.le_refl _⟩ rfl (Nat.le_of_ble_eq_true rfl) dX4_tick_89 (st2 := [.int (S_X6_valueBelow μ 6 (r13 16)), .int (r13 19), .ref (gA G g 2)]) rfl ?_
      refine q_iadd X dX4_tick_92 ?_
      obtain ⟨r14, e_r14⟩ : ∃ z : Nat → Int32, z = va_up r13 19 ((r13 19) + (S_X6_valueBelow μ 6 (r13 16))) := ⟨_, rfl⟩
      refine q_put (fk := 3) (h2 := va_up h g r14) X cf_X0 (ac_2_2 hT_g) (by decide) fl_X4_78 rfl rfl (by rw [hT_g]; rfl) rfl rfl rfl dX4_tick_93 (va_up_self _ _ _) (by rw [e_r14, va_up_up]) ?_
      refine q_goto (tgt := 128) X dX4_tick_96 (by decide) ?_
      refine q_sub (lv2 := [(0, .ref (gA G g 0)), (1, .ref (gA G 3 0)), (2, .ref (gA G 4 0))]) [0, 1, 2] rfl ?_
      exact hJ15 r14 (by subst e_r14; subst e_r13; subst e_r12; exact ((if_pos c8).trans rfl).symm)
  intro m9 e_m9
  refine q_aload_n X 0 dX4_tick_128 rfl ?_
  obtain ⟨r16, e_r16⟩ : ∃ z : Nat → Int32, z = S_X4_moveProbe m9 := ⟨_, rfl⟩
  refine q_callV (h1 := _) (rest := []) (As := []) X (c_X4_moveProbe (l := l) hG (ρ := m9)   hT_g (va_up_self _ _ _)) mf_X4_moveProbe mv_X4_moveProbe cf_X4 rfl (ac_2_0 hT_g) lk_X4_96 rfl ⟨by decide, by decide⟩ ⟨Nat.le_refl _, Nat.le_refl _⟩ rfl (Nat.le_of_ble_eq_true rfl) dX4_tick_129 (st2 := []) rfl ?_
  refine q_eq (h2 := va_up h g r16) (by rw [e_r16]; exact va_up_up _ _ _ _) rfl ?_
  refine q_aload_n X 0 dX4_tick_132 rfl ?_
  refine q_geti (fk := 3) (x := r16 1) X cf_X4 (ac_2_0 hT_g) (by decide) fl_X4_29 rfl rfl dX4_tick_133 (va_up_self _ _ _) rfl ?_
  refine q_iconst (v := 1) X dX4_tick_136 (by decide) ?_
  suffices hJ20 : ∀ (m18 : Nat → Int32), m18 = (if (r16 1) = 1 then (S_X0_lookForCrack r16 (r16 15)) else (r16)) → VV G (AA G) p l e { frames := 4, cells := 0, slots := 0, locals := 96 } s m ([.ref (gA G g 0), .ref (gA G 3 0), .ref (gA G 4 0)] : List Value).toArray below meth c 0 0 (MQ below (QC G (va_up h g Z) none) ([.ref (gA G g 0), .ref (gA G 3 0), .ref (gA G 4 0)] : List Value).toArray s 0 0 (AA G)) 3 (va_up h g m18) 154 [(0, .ref (gA G g 0)), (1, .ref (gA G 3 0)), (2, .ref (gA G 4 0))] [] by
    refine q_icmp_ne (tgt := 154) X dX4_tick_137 (by decide) (fun c17 => ?_) (fun c17 => ?_)
    · skip
      refine q_sub (lv2 := [(0, .ref (gA G g 0)), (1, .ref (gA G 3 0)), (2, .ref (gA G 4 0))]) [0, 1, 2] rfl ?_
      exact hJ20 r16 (by exact ((if_neg c17).trans rfl).symm)
    · skip
      refine q_aload_n X 0 dX4_tick_140 rfl ?_
      refine q_get (fk := 1) (v := .ref (gA G g 2)) X cf_X4 (ac_2_0 hT_g) (by decide) fl_X4_21 rfl rfl dX4_tick_141 rfl ?_
      refine q_aload_n X 0 dX4_tick_144 rfl ?_
      refine q_get (fk := 0) (v := .ref (gA G g 1)) X cf_X4 (ac_2_0 hT_g) (by decide) fl_X4_12 rfl rfl dX4_tick_145 rfl ?_
      refine q_geti (fk := 8) (x := r16 15) X cf_X5 (ac_2_1 hT_g) (by decide) fl_X4_99 rfl rfl dX4_tick_148 (va_up_self _ _ _) rfl ?_
      obtain ⟨r19, e_r19⟩ : ∃ z : Nat → Int32, z = S_X0_lookForCrack r16 (r16 15) := ⟨_, rfl⟩
      refine q_callV (h1 := _) (rest := []) (As := [.int (r16 15)]) X (c_X0_lookForCrack (l := l) hG (ρ := r16)  (r16 15) hT_g (va_up_self _ _ _)) mf_X0_lookForCrack mv_X0_lookForCrack cf_X0 rfl (ac_2_2 hT_g) lk_X4_102 rfl ⟨by decide, by decide⟩ ⟨Nat.le_refl _, Nat.le_refl _⟩ rfl (Nat.le_of_ble_eq_true rfl) dX4_tick_151 (st2 := []) rfl ?_
      refine q_eq (h2 := va_up h g r19) (by rw [e_r19]; exact va_up_up _ _ _ _) rfl ?_
      refine q_sub (lv2 := [(0, .ref (gA G g 0)), (1, .ref (gA G 3 0)), (2, .ref (gA G 4 0))]) [0, 1, 2] rfl ?_
      exact hJ20 r19 (by subst e_r19; exact ((if_pos c17).trans rfl).symm)
  intro m18 e_m18
  have E : Z = m18 := by subst e_m18; subst e_r16; subst e_m9; subst e_r7; subst e_m3; subst e_r1; exact hZ.symm.trans (rfl)
  exact q_vret X hret dX4_tick_154 rfl (by rw [E])
