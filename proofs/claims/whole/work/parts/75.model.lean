def S_X10_row (σ : Nat → Int32) (k t v : Int32) : Nat → Int32 := va_up (va_up σ (Int32.toNatClampNeg (50 + 2 * k)) t) (Int32.toNatClampNeg (50 + 2 * k + 1)) v
theorem ix1 (i : Nat) : 0 + 1 * i = i := by omega
set_option maxRecDepth 100000 in
theorem c_X10_row {G : Geo} {l : Launch} (hG : GOK G) {h : Hp} (k t v : Int32) (hT_36 : gT G 36 = 9) (hT_37 : gT G 37 = 10) (h1 : vp_in (50 + 2 * k) (ar_n (gT G 37) 37)) (h2 : vp_in (50 + 2 * k + 1) (ar_n (gT G 37) 37)) : CM G l yX10_row cX10_row 4 none 0 0 [.ref (gA G 36 0), .int k, .int t, .int v] h (va_up h 37 (S_X10_row (h 37) k t v)) none := by
  refine q_enter hG mf_X10_row (Nat.le_of_ble_eq_true rfl) ?_
  intro p e s m below meth c X hret
  refine q_lv (lv2 := [(0, .ref (gA G 36 0)), (1, .int k), (2, .int t), (3, .int v)]) rfl ?_
  refine q_aload_n X 0 dX10_row_0 rfl ?_
  refine q_get (fk := 1) (v := .ref (gA G 37 0)) X cf_X10 (ac_9_0 hT_36) (by decide) fl_X10_7 rfl rfl dX10_row_1 rfl ?_
  refine q_bipush (v := 50) X dX10_row_4 (by decide) ?_
  refine q_iconst (v := 2) X dX10_row_6 (by decide) ?_
  refine q_iload_n X 1 dX10_row_7 rfl ?_
  refine q_imul X dX10_row_8 ?_
  refine q_iadd X dX10_row_9 ?_
  refine q_iload_n X 2 dX10_row_10 rfl ?_
  refine q_iast (h2 := va_up h 37 (va_up (h 37) (Int32.toNatClampNeg (50 + 2 * k)) t)) X (ac_10_0 hT_37) h1 dX10_row_11 rfl (by rw [ix1]) ?_
  refine q_aload_n X 0 dX10_row_12 rfl ?_
  refine q_get (fk := 1) (v := .ref (gA G 37 0)) X cf_X10 (ac_9_0 hT_36) (by decide) fl_X10_7 rfl rfl dX10_row_13 rfl ?_
  refine q_bipush (v := 50) X dX10_row_16 (by decide) ?_
  refine q_iconst (v := 2) X dX10_row_18 (by decide) ?_
  refine q_iload_n X 1 dX10_row_19 rfl ?_
  refine q_imul X dX10_row_20 ?_
  refine q_iadd X dX10_row_21 ?_
  refine q_iconst (v := 1) X dX10_row_22 (by decide) ?_
  refine q_iadd X dX10_row_23 ?_
  refine q_iload_n X 3 dX10_row_24 rfl ?_
  refine q_iast (h2 := va_up h 37 (S_X10_row (h 37) k t v)) X (ac_10_0 hT_37) h2 dX10_row_25 (va_up_self _ _ _) (by rw [va_up_up, ix1]; rfl) ?_
  exact q_vret X hret dX10_row_26 rfl rfl
def T10 : Nat → Nat := fun g => if g < 36 then 14 else ([9, 10, 10, 11, 12, 13] : List Nat).getD (g - 36) 14
def gaM (b : Nat) (u : Nat → Nat) : Nat → Nat → Nat := fun g _ => if g = 36 then b else u (g - 37)
theorem T10_42 : ∀ g, 42 ≤ g → T10 g = 14 := fun g hg => by
  unfold T10
  rw [if_neg (by omega), List.getD_eq_getElem?_getD, List.getElem?_eq_none (by show 6 ≤ g - 36; omega)]
  rfl
theorem arL10 (D : va_G) (cI cS : ClassId) (ga : Nat → Nat → Nat) : ar_L (D, cI, cS, T10, ga) = [(36, 0), (37, 0), (38, 0), (39, 0), (40, 0), (41, 0)] := by
  show ((List.range 168).filter (fun n => (ar_cell (T10 (n / 4)) (n % 4)).isSome)).map (fun n => (n / 4, n % 4)) = _
  decide +kernel
def hM0 : Hp := fun _ _ => 0
def hM1 : Hp := va_up hM0 37 (va_up (hM0 37) 2 250)
def hM2 : Hp := va_up hM1 37 (va_up (hM1 37) 3 250)
def hM3 : Hp := va_up hM2 37 (va_up (hM2 37) 4 250)
def hM4 : Hp := va_up hM3 37 (va_up (hM3 37) 5 4)
def hM5 : Hp := va_up hM4 37 (va_up (hM4 37) 8 10)
def hM6 : Hp := va_up hM5 37 (va_up (hM5 37) 10 50)
def hM7 : Hp := va_up hM6 37 (va_up (hM6 37) 11 5)
def hM8 : Hp := va_up hM7 37 (va_up (hM7 37) 12 50)
def hM9 : Hp := va_up hM8 37 (va_up (hM8 37) 14 1960)
def hM10 : Hp := va_up hM9 37 (va_up (hM9 37) 15 30)
def hM11 : Hp := va_up hM10 37 (va_up (hM10 37) 49 4)
def hM12 : Hp := va_up hM11 37 (S_X10_row (hM11 37) 0 1000 2)
def hM13 : Hp := va_up hM12 37 (S_X10_row (hM12 37) 1 1500 6)
def hM14 : Hp := va_up hM13 37 (S_X10_row (hM13 37) 2 1900 14)
def hM15 : Hp := va_up hM14 37 (S_X10_row (hM14 37) 3 2100 25)
set_option maxRecDepth 100000 in
theorem wl10 {D : va_G} {cI cS : ClassId} {a q1 q2 q3 q4 q5 : Nat} {u : Nat → Nat} (eu : u = fun n => ([q1, q2, q3, q4, q5] : List Nat).getD n 0) : wl (D, cI, cS, T10, gaM a u) hM0 = ((((([(a, .inr (10, [.int 0, .ref q1, .ref q2, .ref q3, .int 0, .ref q4, .int 0, .int 0, .int 0, .ref q5]))] ++ [(q1, .inl (cI, 112, .inl (fun _ => 0)))]) ++ [(q2, .inl (cI, 112, .inl (fun _ => 0)))]) ++ [(q3, .inl (cI, 560, .inl (fun _ => 0)))]) ++ [(q4, .inl (cI, 100, .inl (fun _ => 0)))]) ++ [(q5, .inl (cI, 16, .inl (fun _ => 0)))]) := by
  unfold wl
  rw [arL10]
  subst eu
  rfl
set_option maxRecDepth 100000 in
set_option maxHeartbeats 8000000 in
theorem c_X10_init {D : va_G} {cI cS : ClassId} {l : Launch} (a : Nat) : CN D cI cS l yX10_init cX10_init 1 1 23 5 900 a [] (.inr (10, [.int 0, .null, .null, .null, .int 0, .null, .int 0, .int 0, .int 0, .null])) (fun u => wl (D, cI, cS, T10, gaM a u) hM15) := by
  refine z_enter mf_X10_init rfl (Nat.le_of_ble_eq_true rfl) ?_
  intro p e s m below meth c X hret hin hA hO
  refine z_lv (lv2 := [(0, .ref a)]) rfl ?_
  refine z_aload_n X 0 dX10_init_0 rfl ?_
  refine z_obj X lk_X10_1 oi_i oi_c (Nat.le_of_ble_eq_true rfl) (Nat.le_of_ble_eq_true rfl) dX10_init_1 ?_
  refine z_aload_n X 0 dX10_init_4 rfl ?_
  refine z_bipush (v := 112) X dX10_init_5 (by decide) ?_
  refine z_newa (N := 112) (c2 := 1) (s2 := 112) X hA (by decide) (by decide) (Nat.le_of_ble_eq_true rfl) (Nat.le_of_ble_eq_true rfl) (Nat.le_of_ble_eq_true rfl) rfl rfl dX10_init_7 (fun q1 => ?_)
  refine z_putF (fk := 1) (ws2 := ([(a, .inr (10, [.int 0, .ref q1, .null, .null, .int 0, .null, .int 0, .int 0, .int 0, .null]))] ++ [(q1, .inl (cI, 112, .inl (fun _ => 0)))])) X hin 0 cf_X10 rfl (by decide) fl_X10_7 rfl rfl rfl rfl rfl (Nat.le_of_ble_eq_true rfl) rfl dX10_init_9 ?_
  refine z_aload_n X 0 dX10_init_12 rfl ?_
  refine z_bipush (v := 112) X dX10_init_13 (by decide) ?_
  refine z_newa (N := 112) (c2 := 2) (s2 := 224) X hA (by decide) (by decide) (Nat.le_of_ble_eq_true rfl) (Nat.le_of_ble_eq_true rfl) (Nat.le_of_ble_eq_true rfl) rfl rfl dX10_init_15 (fun q2 => ?_)
  refine z_putF (fk := 2) (ws2 := (([(a, .inr (10, [.int 0, .ref q1, .ref q2, .null, .int 0, .null, .int 0, .int 0, .int 0, .null]))] ++ [(q1, .inl (cI, 112, .inl (fun _ => 0)))]) ++ [(q2, .inl (cI, 112, .inl (fun _ => 0)))])) X hin 0 cf_X10 rfl (by decide) fl_X10_13 rfl rfl rfl rfl rfl (Nat.le_of_ble_eq_true rfl) rfl dX10_init_17 ?_
  refine z_aload_n X 0 dX10_init_20 rfl ?_
  refine z_sipush (v := 560) X dX10_init_21 (by decide) ?_
  refine z_newa (N := 560) (c2 := 3) (s2 := 784) X hA (by decide) (by decide) (Nat.le_of_ble_eq_true rfl) (Nat.le_of_ble_eq_true rfl) (Nat.le_of_ble_eq_true rfl) rfl rfl dX10_init_24 (fun q3 => ?_)
  refine z_putF (fk := 3) (ws2 := ((([(a, .inr (10, [.int 0, .ref q1, .ref q2, .ref q3, .int 0, .null, .int 0, .int 0, .int 0, .null]))] ++ [(q1, .inl (cI, 112, .inl (fun _ => 0)))]) ++ [(q2, .inl (cI, 112, .inl (fun _ => 0)))]) ++ [(q3, .inl (cI, 560, .inl (fun _ => 0)))])) X hin 0 cf_X10 rfl (by decide) fl_X10_16 rfl rfl rfl rfl rfl (Nat.le_of_ble_eq_true rfl) rfl dX10_init_26 ?_
  refine z_aload_n X 0 dX10_init_29 rfl ?_
  refine z_bipush (v := 100) X dX10_init_30 (by decide) ?_
  refine z_newa (N := 100) (c2 := 4) (s2 := 884) X hA (by decide) (by decide) (Nat.le_of_ble_eq_true rfl) (Nat.le_of_ble_eq_true rfl) (Nat.le_of_ble_eq_true rfl) rfl rfl dX10_init_32 (fun q4 => ?_)
  refine z_putF (fk := 5) (ws2 := (((([(a, .inr (10, [.int 0, .ref q1, .ref q2, .ref q3, .int 0, .ref q4, .int 0, .int 0, .int 0, .null]))] ++ [(q1, .inl (cI, 112, .inl (fun _ => 0)))]) ++ [(q2, .inl (cI, 112, .inl (fun _ => 0)))]) ++ [(q3, .inl (cI, 560, .inl (fun _ => 0)))]) ++ [(q4, .inl (cI, 100, .inl (fun _ => 0)))])) X hin 0 cf_X10 rfl (by decide) fl_X10_19 rfl rfl rfl rfl rfl (Nat.le_of_ble_eq_true rfl) rfl dX10_init_34 ?_
  refine z_aload_n X 0 dX10_init_37 rfl ?_
  refine z_bipush (v := 16) X dX10_init_38 (by decide) ?_
  refine z_newa (N := 16) (c2 := 5) (s2 := 900) X hA (by decide) (by decide) (Nat.le_of_ble_eq_true rfl) (Nat.le_of_ble_eq_true rfl) (Nat.le_of_ble_eq_true rfl) rfl rfl dX10_init_40 (fun q5 => ?_)
  refine z_putF (fk := 9) (ws2 := ((((([(a, .inr (10, [.int 0, .ref q1, .ref q2, .ref q3, .int 0, .ref q4, .int 0, .int 0, .int 0, .ref q5]))] ++ [(q1, .inl (cI, 112, .inl (fun _ => 0)))]) ++ [(q2, .inl (cI, 112, .inl (fun _ => 0)))]) ++ [(q3, .inl (cI, 560, .inl (fun _ => 0)))]) ++ [(q4, .inl (cI, 100, .inl (fun _ => 0)))]) ++ [(q5, .inl (cI, 16, .inl (fun _ => 0)))])) X hin 0 cf_X10 rfl (by decide) fl_X10_22 rfl rfl rfl rfl rfl (Nat.le_of_ble_eq_true rfl) rfl dX10_init_42 ?_
  refine z_aload_n X 0 dX10_init_45 rfl ?_
  refine z_iconst (v := 0) X dX10_init_46 (by decide) ?_
  refine z_put (fk := 0) (ws2 := ((((([(a, .inr (10, [.int 0, .ref q1, .ref q2, .ref q3, .int 0, .ref q4, .int 0, .int 0, .int 0, .ref q5]))] ++ [(q1, .inl (cI, 112, .inl (fun _ => 0)))]) ++ [(q2, .inl (cI, 112, .inl (fun _ => 0)))]) ++ [(q3, .inl (cI, 560, .inl (fun _ => 0)))]) ++ [(q4, .inl (cI, 100, .inl (fun _ => 0)))]) ++ [(q5, .inl (cI, 16, .inl (fun _ => 0)))])) X 0 cf_X10 rfl (by decide) fl_X10_25 rfl rfl rfl rfl (Nat.le_of_ble_eq_true rfl) rfl dX10_init_47 ?_
  obtain ⟨u, eu⟩ : ∃ u : Nat → Nat, u = fun n => ([q1, q2, q3, q4, q5] : List Nat).getD n 0 := ⟨_, rfl⟩
  have ew := wl10 (D := D) (cI := cI) (cS := cS) (a := a) eu
  refine z_arena (T := T10) (ga := gaM a u) (h := hM0) X T10_42 (fun H hP => by rw [ew]; exact hP) (fun hD => by rw [ew]; exact hD) (fun X d => ?_)
  obtain ⟨G, hGe⟩ : ∃ G : Geo, G = (D, cI, cS, T10, gaM a u) := ⟨_, rfl⟩
  have hG : GOK G := by rw [hGe]; exact X.2.2.2.2.2.1
  have hT_36 : gT G 36 = 9 := by rw [hGe]; rfl
  have hT_37 : gT G 37 = 10 := by rw [hGe]; rfl
  have ha : a = gA G 36 0 := by rw [hGe]; rfl
  have hDe : gD G = D := by rw [hGe]; rfl
  have hwe : wl G hM15 = (fun u => wl (D, cI, cS, T10, gaM a u) hM15) u := by rw [hGe]
  refine q_lv (lv2 := [(0, .ref (gA G 36 0))]) (by rw [← ha]) ?_
  rw [← hGe] at X ⊢
  refine q_aload_n X 0 dX10_init_50 rfl ?_
  refine q_get (fk := 1) (v := .ref (gA G 37 0)) X cf_X10 (ac_9_0 hT_36) (by decide) fl_X10_7 rfl rfl dX10_init_51 rfl ?_
  refine q_iconst (v := 2) X dX10_init_54 (by decide) ?_
  refine q_sipush (v := 250) X dX10_init_55 (by decide) ?_
  refine q_iast (h2 := hM1) X (ac_10_0 hT_37) (by rw [hT_37]; exact vin_lit (by decide)) dX10_init_58 (rfl) (by rw [show 0 + 1 * Int32.toNatClampNeg 2 = 2 from by decide]; rfl) ?_
  refine q_aload_n X 0 dX10_init_59 rfl ?_
  refine q_get (fk := 1) (v := .ref (gA G 37 0)) X cf_X10 (ac_9_0 hT_36) (by decide) fl_X10_7 rfl rfl dX10_init_60 rfl ?_
  refine q_iconst (v := 3) X dX10_init_63 (by decide) ?_
  refine q_sipush (v := 250) X dX10_init_64 (by decide) ?_
  refine q_iast (h2 := hM2) X (ac_10_0 hT_37) (by rw [hT_37]; exact vin_lit (by decide)) dX10_init_67 (rfl) (by rw [show 0 + 1 * Int32.toNatClampNeg 3 = 3 from by decide]; rfl) ?_
  refine q_aload_n X 0 dX10_init_68 rfl ?_
  refine q_get (fk := 1) (v := .ref (gA G 37 0)) X cf_X10 (ac_9_0 hT_36) (by decide) fl_X10_7 rfl rfl dX10_init_69 rfl ?_
  refine q_iconst (v := 4) X dX10_init_72 (by decide) ?_
  refine q_sipush (v := 250) X dX10_init_73 (by decide) ?_
  refine q_iast (h2 := hM3) X (ac_10_0 hT_37) (by rw [hT_37]; exact vin_lit (by decide)) dX10_init_76 (rfl) (by rw [show 0 + 1 * Int32.toNatClampNeg 4 = 4 from by decide]; rfl) ?_
  refine q_aload_n X 0 dX10_init_77 rfl ?_
  refine q_get (fk := 1) (v := .ref (gA G 37 0)) X cf_X10 (ac_9_0 hT_36) (by decide) fl_X10_7 rfl rfl dX10_init_78 rfl ?_
  refine q_iconst (v := 5) X dX10_init_81 (by decide) ?_
  refine q_iconst (v := 4) X dX10_init_82 (by decide) ?_
  refine q_iast (h2 := hM4) X (ac_10_0 hT_37) (by rw [hT_37]; exact vin_lit (by decide)) dX10_init_83 (rfl) (by rw [show 0 + 1 * Int32.toNatClampNeg 5 = 5 from by decide]; rfl) ?_
  refine q_aload_n X 0 dX10_init_84 rfl ?_
  refine q_get (fk := 1) (v := .ref (gA G 37 0)) X cf_X10 (ac_9_0 hT_36) (by decide) fl_X10_7 rfl rfl dX10_init_85 rfl ?_
  refine q_bipush (v := 8) X dX10_init_88 (by decide) ?_
  refine q_bipush (v := 10) X dX10_init_90 (by decide) ?_
  refine q_iast (h2 := hM5) X (ac_10_0 hT_37) (by rw [hT_37]; exact vin_lit (by decide)) dX10_init_92 (rfl) (by rw [show 0 + 1 * Int32.toNatClampNeg 8 = 8 from by decide]; rfl) ?_
  refine q_aload_n X 0 dX10_init_93 rfl ?_
  refine q_get (fk := 1) (v := .ref (gA G 37 0)) X cf_X10 (ac_9_0 hT_36) (by decide) fl_X10_7 rfl rfl dX10_init_94 rfl ?_
  refine q_bipush (v := 10) X dX10_init_97 (by decide) ?_
  refine q_bipush (v := 50) X dX10_init_99 (by decide) ?_
  refine q_iast (h2 := hM6) X (ac_10_0 hT_37) (by rw [hT_37]; exact vin_lit (by decide)) dX10_init_101 (rfl) (by rw [show 0 + 1 * Int32.toNatClampNeg 10 = 10 from by decide]; rfl) ?_
  refine q_aload_n X 0 dX10_init_102 rfl ?_
  refine q_get (fk := 1) (v := .ref (gA G 37 0)) X cf_X10 (ac_9_0 hT_36) (by decide) fl_X10_7 rfl rfl dX10_init_103 rfl ?_
  refine q_bipush (v := 11) X dX10_init_106 (by decide) ?_
  refine q_iconst (v := 5) X dX10_init_108 (by decide) ?_
  refine q_iast (h2 := hM7) X (ac_10_0 hT_37) (by rw [hT_37]; exact vin_lit (by decide)) dX10_init_109 (rfl) (by rw [show 0 + 1 * Int32.toNatClampNeg 11 = 11 from by decide]; rfl) ?_
  refine q_aload_n X 0 dX10_init_110 rfl ?_
  refine q_get (fk := 1) (v := .ref (gA G 37 0)) X cf_X10 (ac_9_0 hT_36) (by decide) fl_X10_7 rfl rfl dX10_init_111 rfl ?_
  refine q_bipush (v := 12) X dX10_init_114 (by decide) ?_
  refine q_bipush (v := 50) X dX10_init_116 (by decide) ?_
  refine q_iast (h2 := hM8) X (ac_10_0 hT_37) (by rw [hT_37]; exact vin_lit (by decide)) dX10_init_118 (rfl) (by rw [show 0 + 1 * Int32.toNatClampNeg 12 = 12 from by decide]; rfl) ?_
  refine q_aload_n X 0 dX10_init_119 rfl ?_
  refine q_get (fk := 1) (v := .ref (gA G 37 0)) X cf_X10 (ac_9_0 hT_36) (by decide) fl_X10_7 rfl rfl dX10_init_120 rfl ?_
  refine q_bipush (v := 14) X dX10_init_123 (by decide) ?_
  refine q_sipush (v := 1960) X dX10_init_125 (by decide) ?_
  refine q_iast (h2 := hM9) X (ac_10_0 hT_37) (by rw [hT_37]; exact vin_lit (by decide)) dX10_init_128 (rfl) (by rw [show 0 + 1 * Int32.toNatClampNeg 14 = 14 from by decide]; rfl) ?_
  refine q_aload_n X 0 dX10_init_129 rfl ?_
  refine q_get (fk := 1) (v := .ref (gA G 37 0)) X cf_X10 (ac_9_0 hT_36) (by decide) fl_X10_7 rfl rfl dX10_init_130 rfl ?_
  refine q_bipush (v := 15) X dX10_init_133 (by decide) ?_
  refine q_bipush (v := 30) X dX10_init_135 (by decide) ?_
  refine q_iast (h2 := hM10) X (ac_10_0 hT_37) (by rw [hT_37]; exact vin_lit (by decide)) dX10_init_137 (rfl) (by rw [show 0 + 1 * Int32.toNatClampNeg 15 = 15 from by decide]; rfl) ?_
  refine q_aload_n X 0 dX10_init_138 rfl ?_
  refine q_get (fk := 1) (v := .ref (gA G 37 0)) X cf_X10 (ac_9_0 hT_36) (by decide) fl_X10_7 rfl rfl dX10_init_139 rfl ?_
  refine q_bipush (v := 49) X dX10_init_142 (by decide) ?_
  refine q_iconst (v := 4) X dX10_init_144 (by decide) ?_
  refine q_iast (h2 := hM11) X (ac_10_0 hT_37) (by rw [hT_37]; exact vin_lit (by decide)) dX10_init_145 (rfl) (by rw [show 0 + 1 * Int32.toNatClampNeg 49 = 49 from by decide]; rfl) ?_
  refine q_aload_n X 0 dX10_init_146 rfl ?_
  refine q_iconst (v := 0) X dX10_init_147 (by decide) ?_
  refine q_sipush (v := 1000) X dX10_init_148 (by decide) ?_
  refine q_iconst (v := 2) X dX10_init_151 (by decide) ?_
  refine q_callV (h1 := hM12) (rest := []) (As := [.int 0, .int 1000, .int 2]) X (c_X10_row (l := l) hG (h := hM11) 0 1000 2 hT_36 hT_37 (by rw [hT_37]; exact vin_lit (by decide)) (by rw [hT_37]; exact vin_lit (by decide))) mf_X10_row mv_X10_row cf_X10 rfl (ac_9_0 hT_36) lk_X10_29 rfl ⟨by decide, by decide⟩ ⟨Nat.le_refl _, Nat.le_refl _⟩ rfl (Nat.le_of_ble_eq_true rfl) dX10_init_152 (st2 := []) rfl ?_
  refine q_aload_n X 0 dX10_init_155 rfl ?_
  refine q_iconst (v := 1) X dX10_init_156 (by decide) ?_
  refine q_sipush (v := 1500) X dX10_init_157 (by decide) ?_
  refine q_bipush (v := 6) X dX10_init_160 (by decide) ?_
  refine q_callV (h1 := hM13) (rest := []) (As := [.int 1, .int 1500, .int 6]) X (c_X10_row (l := l) hG (h := hM12) 1 1500 6 hT_36 hT_37 (by rw [hT_37]; exact vin_lit (by decide)) (by rw [hT_37]; exact vin_lit (by decide))) mf_X10_row mv_X10_row cf_X10 rfl (ac_9_0 hT_36) lk_X10_29 rfl ⟨by decide, by decide⟩ ⟨Nat.le_refl _, Nat.le_refl _⟩ rfl (Nat.le_of_ble_eq_true rfl) dX10_init_162 (st2 := []) rfl ?_
  refine q_aload_n X 0 dX10_init_165 rfl ?_
  refine q_iconst (v := 2) X dX10_init_166 (by decide) ?_
  refine q_sipush (v := 1900) X dX10_init_167 (by decide) ?_
  refine q_bipush (v := 14) X dX10_init_170 (by decide) ?_
  refine q_callV (h1 := hM14) (rest := []) (As := [.int 2, .int 1900, .int 14]) X (c_X10_row (l := l) hG (h := hM13) 2 1900 14 hT_36 hT_37 (by rw [hT_37]; exact vin_lit (by decide)) (by rw [hT_37]; exact vin_lit (by decide))) mf_X10_row mv_X10_row cf_X10 rfl (ac_9_0 hT_36) lk_X10_29 rfl ⟨by decide, by decide⟩ ⟨Nat.le_refl _, Nat.le_refl _⟩ rfl (Nat.le_of_ble_eq_true rfl) dX10_init_172 (st2 := []) rfl ?_
  refine q_aload_n X 0 dX10_init_175 rfl ?_
  refine q_iconst (v := 3) X dX10_init_176 (by decide) ?_
  refine q_sipush (v := 2100) X dX10_init_177 (by decide) ?_
  refine q_bipush (v := 25) X dX10_init_180 (by decide) ?_
  refine q_callV (h1 := hM15) (rest := []) (As := [.int 3, .int 2100, .int 25]) X (c_X10_row (l := l) hG (h := hM14) 3 2100 25 hT_36 hT_37 (by rw [hT_37]; exact vin_lit (by decide)) (by rw [hT_37]; exact vin_lit (by decide))) mf_X10_row mv_X10_row cf_X10 rfl (ac_9_0 hT_36) lk_X10_29 rfl ⟨by decide, by decide⟩ ⟨Nat.le_refl _, Nat.le_refl _⟩ rfl (Nat.le_of_ble_eq_true rfl) dX10_init_182 (st2 := []) rfl ?_
  exact q_cret X hret dX10_init_185 u hDe hwe
