def S_X3_takesTick (ρ : Nat → Int32) (π : Nat → Int32) (nu : Int32) : Int32 × (Nat → Int32) := if 8 ≤ (π 0) then ((0, ρ)) else (if nu ≤ (ρ 0) then ((0, ρ)) else (if (S_X9_inRange nu 0 400) = 0 then ((0, ρ)) else (let r4 : Nat → Int32 := va_up ρ 0 nu; (1, r4))))
set_option maxRecDepth 100000 in
set_option maxHeartbeats 4000000 in
theorem c_X3_takesTick {G : Geo} {l : Launch} (hG : GOK G) {h : Hp} {ρ : Nat → Int32} {π : Nat → Int32} (nu : Int32) (hK : KT G) (hr_8 : h 8 = ρ) (hr_9 : h 9 = π) : CM G l yX3_takesTick cX3_takesTick 2 (some .boolean) 1 22 [.ref (gA G 8 0), .int nu] h (va_up h 8 ((S_X3_takesTick ρ π nu).2)) (some (.int ((S_X3_takesTick ρ π nu).1))) := by
  obtain ⟨Z, hZ⟩ : ∃ Z, S_X3_takesTick ρ π nu = Z := ⟨_, rfl⟩
  rw [hZ]
  refine q_enter hG mf_X3_takesTick (Nat.le_of_ble_eq_true rfl) ?_
  intro p e s m below meth c X hret
  have hT_8 : gT G 8 = 7 := hK 8 (by decide)
  have hT_9 : gT G 9 = 3 := hK 9 (by decide)
  refine q_lv (lv2 := [(0, .ref (gA G 8 0)), (1, .int nu)]) rfl ?_
  refine q_aload_n X 0 dX3_takesTick_0 rfl ?_
  refine q_get (fk := 0) (v := .ref (gA G 9 0)) X cf_X3 (ac_7_0 hT_8) (by decide) fl_X3_14 rfl rfl dX3_takesTick_1 rfl ?_
  refine q_geti (fk := 2) (x := π 0) X cf_X6 (ac_3_0 hT_9) (by decide) fl_X3_24 rfl rfl dX3_takesTick_4 (hr_9) rfl ?_
  refine q_bipush (v := 8) X dX3_takesTick_7 (by decide) ?_
  refine q_icmp_ge (tgt := 31) X dX3_takesTick_9 (by decide) (fun c1 => ?_) (fun c1 => ?_)
  · skip
    refine q_iconst (v := 0) X dX3_takesTick_31 (by decide) ?_
    have E : Z = (0, ρ) := by exact hZ.symm.trans ((if_pos c1).trans rfl)
    exact q_zret X hret rfl dX3_takesTick_32 (by rw [E]) (by rw [E]; exact va_up_id2 (hr_8))
  · skip
    refine q_iload_n X 1 dX3_takesTick_12 rfl ?_
    refine q_aload_n X 0 dX3_takesTick_13 rfl ?_
    refine q_geti (fk := 1) (x := ρ 0) X cf_X3 (ac_7_0 hT_8) (by decide) fl_X3_20 rfl rfl dX3_takesTick_14 (hr_8) rfl ?_
    refine q_icmp_le (tgt := 31) X dX3_takesTick_17 (by decide) (fun c2 => ?_) (fun c2 => ?_)
    · skip
      refine q_iconst (v := 0) X dX3_takesTick_31 (by decide) ?_
      have E : Z = (0, ρ) := by exact hZ.symm.trans ((if_neg c1).trans ((if_pos c2).trans rfl))
      exact q_zret X hret rfl dX3_takesTick_32 (by rw [E]) (by rw [E]; exact va_up_id2 (hr_8))
    · skip
      refine q_iload_n X 1 dX3_takesTick_20 rfl ?_
      refine q_iconst (v := 0) X dX3_takesTick_21 (by decide) ?_
      refine q_sipush (v := 400) X dX3_takesTick_22 (by decide) ?_
      refine q_callSN (h1 := _) (rest := []) (As := [.int nu, .int 0, .int 400]) X (c_X9_inRange (l := l) hG   nu 0 400 ) mf_X9_inRange ms_X9_inRange ln_X3_57 rfl ⟨by decide, by decide⟩ ⟨Nat.le_refl _, Nat.le_refl _⟩ rfl (Nat.le_of_ble_eq_true rfl) dX3_takesTick_25 (st2 := [.int (S_X9_inRange nu 0 400)]) rfl ?_
      refine q_if_ne (tgt := 33) X dX3_takesTick_28 (by decide) (fun c3 => ?_) (fun c3 => ?_)
      · skip
        refine q_aload_n X 0 dX3_takesTick_33 rfl ?_
        refine q_iload_n X 1 dX3_takesTick_34 rfl ?_
        obtain ⟨r4, e_r4⟩ : ∃ z : Nat → Int32, z = va_up ρ 0 nu := ⟨_, rfl⟩
        refine q_put (fk := 1) (h2 := va_up h 8 r4) X cf_X3 (ac_7_0 hT_8) (by decide) fl_X3_20 rfl rfl (by rw [hT_8]; rfl) rfl rfl rfl dX3_takesTick_35 (hr_8) (by rw [e_r4]) ?_
        refine q_iconst (v := 1) X dX3_takesTick_38 (by decide) ?_
        have E : Z = (1, r4) := by subst e_r4; exact hZ.symm.trans ((if_neg c1).trans ((if_neg c2).trans ((if_neg c3).trans rfl)))
        exact q_zret X hret rfl dX3_takesTick_39 (by rw [E]) (by rw [E])
      · skip
        refine q_iconst (v := 0) X dX3_takesTick_31 (by decide) ?_
        have E : Z = (0, ρ) := by exact hZ.symm.trans ((if_neg c1).trans ((if_neg c2).trans ((if_pos c3).trans rfl)))
        exact q_zret X hret rfl dX3_takesTick_32 (by rw [E]) (by rw [E]; exact va_up_id2 (hr_8))
theorem Z_X3_takesTick (ρ : Nat → Int32) (π : Nat → Int32) (nu : Int32) : (S_X3_takesTick ρ π nu).1 = 0 ∨ (S_X3_takesTick ρ π nu).1 = 1 := by
  unfold S_X3_takesTick
  (repeat' split) <;> first | exact Or.inl rfl | exact Or.inr rfl
def S_X3_takesTemperature (ρ : Nat → Int32) (π : Nat → Int32) (nu : Int32) : Int32 × (Nat → Int32) := if (S_X9_inRange nu 0 3000) = 0 then ((0, π)) else (let r2 : Nat → Int32 := S_X6_set π 8 (ρ 0) nu; (1, r2))
set_option maxRecDepth 100000 in
set_option maxHeartbeats 4000000 in
theorem c_X3_takesTemperature {G : Geo} {l : Launch} (hG : GOK G) {h : Hp} {ρ : Nat → Int32} {π : Nat → Int32} (nu : Int32) (hK : KT G) (hr_8 : h 8 = ρ) (hr_9 : h 9 = π) : CM G l yX3_takesTemperature cX3_takesTemperature 2 (some .boolean) 3 69 [.ref (gA G 8 0), .int nu] h (va_up h 9 ((S_X3_takesTemperature ρ π nu).2)) (some (.int ((S_X3_takesTemperature ρ π nu).1))) := by
  obtain ⟨Z, hZ⟩ : ∃ Z, S_X3_takesTemperature ρ π nu = Z := ⟨_, rfl⟩
  rw [hZ]
  refine q_enter hG mf_X3_takesTemperature (Nat.le_of_ble_eq_true rfl) ?_
  intro p e s m below meth c X hret
  have hT_8 : gT G 8 = 7 := hK 8 (by decide)
  have hT_9 : gT G 9 = 3 := hK 9 (by decide)
  refine q_lv (lv2 := [(0, .ref (gA G 8 0)), (1, .int nu)]) rfl ?_
  refine q_iload_n X 1 dX3_takesTemperature_0 rfl ?_
  refine q_iconst (v := 0) X dX3_takesTemperature_1 (by decide) ?_
  refine q_sipush (v := 3000) X dX3_takesTemperature_2 (by decide) ?_
  refine q_callSN (h1 := _) (rest := []) (As := [.int nu, .int 0, .int 3000]) X (c_X9_inRange (l := l) hG   nu 0 3000 ) mf_X9_inRange ms_X9_inRange ln_X3_57 rfl ⟨by decide, by decide⟩ ⟨Nat.le_refl _, Nat.le_refl _⟩ rfl (Nat.le_of_ble_eq_true rfl) dX3_takesTemperature_5 (st2 := [.int (S_X9_inRange nu 0 3000)]) rfl ?_
  refine q_if_ne (tgt := 13) X dX3_takesTemperature_8 (by decide) (fun c1 => ?_) (fun c1 => ?_)
  · skip
    refine q_aload_n X 0 dX3_takesTemperature_13 rfl ?_
    refine q_get (fk := 0) (v := .ref (gA G 9 0)) X cf_X3 (ac_7_0 hT_8) (by decide) fl_X3_14 rfl rfl dX3_takesTemperature_14 rfl ?_
    refine q_aload_n X 0 dX3_takesTemperature_17 rfl ?_
    refine q_geti (fk := 1) (x := ρ 0) X cf_X3 (ac_7_0 hT_8) (by decide) fl_X3_20 rfl rfl dX3_takesTemperature_18 (hr_8) rfl ?_
    refine q_iload_n X 1 dX3_takesTemperature_21 rfl ?_
    obtain ⟨r2, e_r2⟩ : ∃ z : Nat → Int32, z = S_X6_set π 8 (ρ 0) nu := ⟨_, rfl⟩
    refine q_callV (h1 := _) (rest := []) (As := [.int (ρ 0), .int nu]) X (c_X6_set (l := l) hG (ρ := π) (n := 8) (ρ 0) nu hT_9 (hr_9) (by rw [hT_9]; rfl)) mf_X6_set mv_X6_set cf_X6 rfl (ac_3_0 hT_9) lk_X3_61 rfl ⟨by decide, by decide⟩ ⟨Nat.le_refl _, Nat.le_refl _⟩ rfl (Nat.le_of_ble_eq_true rfl) dX3_takesTemperature_22 (st2 := []) rfl ?_
    refine q_eq (h2 := va_up h 9 r2) (by rw [e_r2]) rfl ?_
    refine q_iconst (v := 1) X dX3_takesTemperature_25 (by decide) ?_
    have E : Z = (1, r2) := by subst e_r2; exact hZ.symm.trans ((if_neg c1).trans rfl)
    exact q_zret X hret rfl dX3_takesTemperature_26 (by rw [E]) (by rw [E])
  · skip
    refine q_iconst (v := 0) X dX3_takesTemperature_11 (by decide) ?_
    have E : Z = (0, π) := by exact hZ.symm.trans ((if_pos c1).trans rfl)
    exact q_zret X hret rfl dX3_takesTemperature_12 (by rw [E]) (by rw [E]; exact va_up_id2 (hr_9))
theorem Z_X3_takesTemperature (ρ : Nat → Int32) (π : Nat → Int32) (nu : Int32) : (S_X3_takesTemperature ρ π nu).1 = 0 ∨ (S_X3_takesTemperature ρ π nu).1 = 1 := by
  unfold S_X3_takesTemperature
  (repeat' split) <;> first | exact Or.inl rfl | exact Or.inr rfl
def S_X3_takes (ρ : Nat → Int32) (π : Nat → Int32) (τ : Nat → Int32) (ex : Int32) (sa : Int32) (en : Int32) : Int32 × (Nat → Int32) × (Nat → Int32) := if ex = 0 then (let r2 : Nat → Int32 := (S_X3_takesTick ρ π (S_X8_numberIn τ sa en)).2; ((S_X3_takesTick ρ π (S_X8_numberIn τ sa en)).1, r2, π)) else (if ex = 1 then (let r4 : Nat → Int32 := (S_X3_takesTemperature ρ π (S_X8_numberIn τ sa en)).2; ((S_X3_takesTemperature ρ π (S_X8_numberIn τ sa en)).1, ρ, r4)) else (if (S_X8_character τ sa) = 59 then ((1, ρ, π)) else ((0, ρ, π))))
set_option maxRecDepth 100000 in
set_option maxHeartbeats 4000000 in
theorem c_X3_takes {G : Geo} {l : Launch} (hG : GOK G) {h : Hp} {ρ : Nat → Int32} {π : Nat → Int32} {τ : Nat → Int32} (ex : Int32) (sa : Int32) (en : Int32) (hK : KT G) (hr_8 : h 8 = ρ) (hr_9 : h 9 = π) (hr_7 : h 7 = τ) : CM G l yX3_takes cX3_takes 5 (some .boolean) 4 90 [.ref (gA G 8 0), .int ex, .ref (gA G 7 0), .int sa, .int en] h (va_up (va_up h 8 ((S_X3_takes ρ π τ ex sa en).2.1)) 9 ((S_X3_takes ρ π τ ex sa en).2.2)) (some (.int ((S_X3_takes ρ π τ ex sa en).1))) := by
  obtain ⟨Z, hZ⟩ : ∃ Z, S_X3_takes ρ π τ ex sa en = Z := ⟨_, rfl⟩
  rw [hZ]
  refine q_enter hG mf_X3_takes (Nat.le_of_ble_eq_true rfl) ?_
  intro p e s m below meth c X hret
  have hT_8 : gT G 8 = 7 := hK 8 (by decide)
  have hT_9 : gT G 9 = 3 := hK 9 (by decide)
  have hT_7 : gT G 7 = 6 := hK 7 (by decide)
  refine q_lv (lv2 := [(0, .ref (gA G 8 0)), (1, .int ex), (2, .ref (gA G 7 0)), (3, .int sa), (4, .int en)]) rfl ?_
  refine q_iload_n X 1 dX3_takes_0 rfl ?_
  rcases Decidable.em (ex = 0) with c1 | c1
  · skip
    refine q_look (off := 27) (tgt := 28) X dX3_takes_1 (by decide) (by rw [c1]; rfl) (by decide) ?_
    refine q_aload_n X 0 dX3_takes_28 rfl ?_
    refine q_aload_n X 2 dX3_takes_29 rfl ?_
    refine q_iload_n X 3 dX3_takes_30 rfl ?_
    refine q_iload X 4 dX3_takes_31 rfl ?_
    refine q_callV (h1 := _) (rest := [.ref (gA G 8 0)]) (As := [.int sa, .int en]) X (c_X8_numberIn (l := l) hG (τ := τ)  sa en hT_7 (hr_7)) mf_X8_numberIn mv_X8_numberIn cf_X8 rfl (ac_6_0 hT_7) lk_X3_43 rfl ⟨by decide, by decide⟩ ⟨Nat.le_refl _, Nat.le_refl _⟩ rfl (Nat.le_of_ble_eq_true rfl) dX3_takes_33 (st2 := [.int (S_X8_numberIn τ sa en), .ref (gA G 8 0)]) rfl ?_
    obtain ⟨r2, e_r2⟩ : ∃ z : Nat → Int32, z = (S_X3_takesTick ρ π (S_X8_numberIn τ sa en)).2 := ⟨_, rfl⟩
    refine q_callV (h1 := _) (rest := []) (As := [.int (S_X8_numberIn τ sa en)]) X (c_X3_takesTick (l := l) hG (ρ := ρ) (π := π)  (S_X8_numberIn τ sa en) hK (hr_8) (hr_9)) mf_X3_takesTick mv_X3_takesTick cf_X3 rfl (ac_7_0 hT_8) lk_X3_47 rfl ⟨by decide, by decide⟩ ⟨Nat.le_refl _, Nat.le_refl _⟩ rfl (Nat.le_of_ble_eq_true rfl) dX3_takes_36 (st2 := [.int ((S_X3_takesTick ρ π (S_X8_numberIn τ sa en)).1)]) rfl ?_
    refine q_eq (h2 := va_up h 8 r2) (by rw [e_r2]) rfl ?_
    have E : Z = ((S_X3_takesTick ρ π (S_X8_numberIn τ sa en)).1, r2, π) := by subst e_r2; exact hZ.symm.trans ((if_pos c1).trans rfl)
    exact q_zret X hret (z01 (Z_X3_takesTick ..)) dX3_takes_39 (by rw [E]) (by rw [E]; (funext x; simp only [va_up]; (repeat' split) <;> first | rfl | omega | (subst_vars; rfl) | (subst_vars; assumption)))
  rcases Decidable.em (ex = 1) with c3 | c3
  · skip
    refine q_look (off := 39) (tgt := 40) X dX3_takes_1 (by decide) (by rw [c3]; rfl) (by decide) ?_
    refine q_aload_n X 0 dX3_takes_40 rfl ?_
    refine q_aload_n X 2 dX3_takes_41 rfl ?_
    refine q_iload_n X 3 dX3_takes_42 rfl ?_
    refine q_iload X 4 dX3_takes_43 rfl ?_
    refine q_callV (h1 := _) (rest := [.ref (gA G 8 0)]) (As := [.int sa, .int en]) X (c_X8_numberIn (l := l) hG (τ := τ)  sa en hT_7 (hr_7)) mf_X8_numberIn mv_X8_numberIn cf_X8 rfl (ac_6_0 hT_7) lk_X3_43 rfl ⟨by decide, by decide⟩ ⟨Nat.le_refl _, Nat.le_refl _⟩ rfl (Nat.le_of_ble_eq_true rfl) dX3_takes_45 (st2 := [.int (S_X8_numberIn τ sa en), .ref (gA G 8 0)]) rfl ?_
    obtain ⟨r4, e_r4⟩ : ∃ z : Nat → Int32, z = (S_X3_takesTemperature ρ π (S_X8_numberIn τ sa en)).2 := ⟨_, rfl⟩
    refine q_callV (h1 := _) (rest := []) (As := [.int (S_X8_numberIn τ sa en)]) X (c_X3_takesTemperature (l := l) hG (ρ := ρ) (π := π)  (S_X8_numberIn τ sa en) hK (hr_8) (hr_9)) mf_X3_takesTemperature mv_X3_takesTemperature cf_X3 rfl (ac_7_0 hT_8) lk_X3_51 rfl ⟨by decide, by decide⟩ ⟨Nat.le_refl _, Nat.le_refl _⟩ rfl (Nat.le_of_ble_eq_true rfl) dX3_takes_48 (st2 := [.int ((S_X3_takesTemperature ρ π (S_X8_numberIn τ sa en)).1)]) rfl ?_
    refine q_eq (h2 := va_up h 9 r4) (by rw [e_r4]) rfl ?_
    have E : Z = ((S_X3_takesTemperature ρ π (S_X8_numberIn τ sa en)).1, ρ, r4) := by subst e_r4; exact hZ.symm.trans ((if_neg c1).trans ((if_pos c3).trans rfl))
    exact q_zret X hret (z01 (Z_X3_takesTemperature ..)) dX3_takes_51 (by rw [E]) (by rw [E]; (funext x; simp only [va_up]; (repeat' split) <;> first | rfl | omega | (subst_vars; rfl) | (subst_vars; assumption)))
  refine q_look (off := 51) (tgt := 52) X dX3_takes_1 (by decide) ((lv_osw c1 (a := 0) (by decide)).trans ((lv_osw c3 (a := 1) (by decide)).trans (rfl))) (by decide) ?_
  refine q_aload_n X 2 dX3_takes_52 rfl ?_
  refine q_iload_n X 3 dX3_takes_53 rfl ?_
  refine q_callV (h1 := _) (rest := []) (As := [.int sa]) X (c_X8_character (l := l) hG (τ := τ)  sa hT_7 (hr_7)) mf_X8_character mv_X8_character cf_X8 rfl (ac_6_0 hT_7) lk_X3_54 rfl ⟨by decide, by decide⟩ ⟨Nat.le_refl _, Nat.le_refl _⟩ rfl (Nat.le_of_ble_eq_true rfl) dX3_takes_54 (st2 := [.int (S_X8_character τ sa)]) rfl ?_
  refine q_bipush (v := 59) X dX3_takes_57 (by decide) ?_
  refine q_icmp_ne (tgt := 66) X dX3_takes_59 (by decide) (fun c5 => ?_) (fun c5 => ?_)
  · skip
    refine q_iconst (v := 0) X dX3_takes_66 (by decide) ?_
    have E : Z = (0, ρ, π) := by exact hZ.symm.trans ((if_neg c1).trans ((if_neg c3).trans ((if_neg c5).trans rfl)))
    exact q_zret X hret rfl dX3_takes_67 (by rw [E]) (by rw [E]; (funext x; simp only [va_up]; (repeat' split) <;> first | rfl | omega | (subst_vars; rfl) | (subst_vars; assumption)))
  · skip
    refine q_iconst (v := 1) X dX3_takes_62 (by decide) ?_
    refine q_goto (tgt := 67) X dX3_takes_63 (by decide) ?_
    have E : Z = (1, ρ, π) := by exact hZ.symm.trans ((if_neg c1).trans ((if_neg c3).trans ((if_pos c5).trans rfl)))
    exact q_zret X hret rfl dX3_takes_67 (by rw [E]) (by rw [E]; (funext x; simp only [va_up]; (repeat' split) <;> first | rfl | omega | (subst_vars; rfl) | (subst_vars; assumption)))
theorem Z_X3_takes (ρ : Nat → Int32) (π : Nat → Int32) (τ : Nat → Int32) (ex : Int32) (sa : Int32) (en : Int32) : (S_X3_takes ρ π τ ex sa en).1 = 0 ∨ (S_X3_takes ρ π τ ex sa en).1 = 1 := by
  unfold S_X3_takes
  by_cases h0 : ex = 0
  · rw [if_pos h0]; exact Z_X3_takesTick ..
  · rw [if_neg h0]
    by_cases h1 : ex = 1
    · rw [if_pos h1]; exact Z_X3_takesTemperature ..
    · rw [if_neg h1]
      split
      · exact Or.inr rfl
      · exact Or.inl rfl
def L_X3_errorPosition_24 (fu : Nat) (ρ : Nat → Int32) (π : Nat → Int32) (τ : Nat → Int32) (ex : Int32) (sa : Int32) (tk : Int32) (ρ1 : Nat → Int32) (π1 : Nat → Int32) : Int32 × (Nat → Int32) × (Nat → Int32) := match fu with
  | 0 => (0, (fun _ => 0), (fun _ => 0))
  | fu + 1 => if 100 ≤ tk then (let m5 : Int32 := if ex = 0 then ((-1)) else (τ 0); (m5, ρ1, π1)) else (if (τ 0) ≤ sa then (let m9 : Int32 := if ex = 0 then ((-1)) else (τ 0); (m9, ρ1, π1)) else (let r11 : Nat → Int32 := (S_X3_takes ρ1 π1 τ ex sa (S_X8_afterToken τ sa)).2.1; let r12 : Nat → Int32 := (S_X3_takes ρ1 π1 τ ex sa (S_X8_afterToken τ sa)).2.2; if ((S_X3_takes ρ1 π1 τ ex sa (S_X8_afterToken τ sa)).1) = 0 then ((sa, r11, r12)) else (let m15 : Int32 := if ex = 2 then (0) else (ex + 1); L_X3_errorPosition_24 fu ρ π τ m15 (S_X8_afterSpaces τ (S_X8_afterToken τ sa)) (tk + 1) r11 r12)))
def S_X3_errorPosition (ρ : Nat → Int32) (π : Nat → Int32) (τ : Nat → Int32) : Int32 × (Nat → Int32) × (Nat → Int32) := let r1 : Nat → Int32 := va_up π 0 0; let r2 : Nat → Int32 := va_up ρ 0 (-1); L_X3_errorPosition_24 101 ρ π τ 0 (S_X8_afterSpaces τ 0) 0 r2 r1
set_option maxRecDepth 100000 in
set_option maxHeartbeats 4000000 in
theorem w_X3_errorPosition_24 {G : Geo} {p : Program} {l : Launch} {e : Env} {s : State} {m : MethodId} {args : Array Value} {below : List Frame} {meth : Method} {c : Code} {h : Hp} {ρ : Nat → Int32} {π : Nat → Int32} {τ : Nat → Int32} (X : CX G (AA G) p s m meth c RX3 cX3_errorPosition 6) (hret : meth.sig.returnType = (some .int)) (hK : KT G) (hr_8 : h 8 = ρ) (hr_9 : h 9 = π) (hr_7 : h 7 = τ) (Z : Int32 × (Nat → Int32) × (Nat → Int32)) : ∀ (fu : Nat) (ex : Int32) (sa : Int32) (tk : Int32) (ρ1 : Nat → Int32) (π1 : Nat → Int32), ((100 : Int32).toInt - tk.toInt).toNat < fu → L_X3_errorPosition_24 fu ρ π τ ex sa tk ρ1 π1 = Z → VV G (AA G) p l e { frames := 5, cells := 0, slots := 0, locals := 114 } s m args below meth c 0 0 (MQ below (QC G (va_up (va_up h 8 Z.2.1) 9 Z.2.2) (some (.int Z.1))) args s 0 0 (AA G)) 6 (va_up (va_up h 8 ρ1) 9 π1) 24 [(0, .ref (gA G 8 0)), (1, .ref (gA G 7 0)), (2, .int ex), (3, .int sa), (4, .int tk)] [] := by
  intro fu
  induction fu with
  | zero =>
    intro ex sa tk ρ1 π1  hm
    exact absurd hm (Nat.not_lt_zero _)
  | succ fu ih =>
    intro ex sa tk ρ1 π1  hm hZ
    have hG := X.2.2.2.2.2.1
    have hT_8 : gT G 8 = 7 := hK 8 (by decide)
    have hT_9 : gT G 9 = 3 := hK 9 (by decide)
    have hT_7 : gT G 7 = 6 := hK 7 (by decide)
    refine q_iload X 4 dX3_errorPosition_24 rfl ?_
    refine q_bipush (v := 100) X dX3_errorPosition_26 (by decide) ?_
    refine q_icmp_ge (tgt := 86) X dX3_errorPosition_28 (by decide) (fun c3 => ?_) (fun c3 => ?_)
    · skip
      refine q_iload_n X 2 dX3_errorPosition_86 rfl ?_
      suffices hJ6 : ∀ (m5 : Int32), m5 = (if ex = 0 then ((-1)) else (τ 0)) → VV G (AA G) p l e { frames := 5, cells := 0, slots := 0, locals := 114 } s m args below meth c 0 0 (MQ below (QC G (va_up (va_up h 8 Z.2.1) 9 Z.2.2) (some (.int Z.1))) args s 0 0 (AA G)) 6 (va_up (va_up h 8 ρ1) 9 π1) 98 [(0, .ref (gA G 8 0)), (1, .ref (gA G 7 0)), (2, .int ex), (3, .int sa), (4, .int tk)] [.int m5] by
        refine q_if_ne (tgt := 94) X dX3_errorPosition_87 (by decide) (fun c4 => ?_) (fun c4 => ?_)
        · skip
          refine q_aload_n X 1 dX3_errorPosition_94 rfl ?_
          refine q_geti (fk := 1) (x := τ 0) X cf_X8 (ac_6_0 hT_7) (by decide) fl_X3_33 rfl rfl dX3_errorPosition_95 ((va_up_ne _ _ (by decide)).trans ((va_up_ne _ _ (by decide)).trans (hr_7))) rfl ?_
          refine q_sub (lv2 := [(0, .ref (gA G 8 0)), (1, .ref (gA G 7 0)), (2, .int ex), (3, .int sa), (4, .int tk)]) [0, 1, 2, 3, 4] rfl ?_
          exact hJ6 (τ 0) (by exact ((if_neg c4).trans rfl).symm)
        · skip
          refine q_iconst (v := (-1)) X dX3_errorPosition_90 (by decide) ?_
          refine q_goto (tgt := 98) X dX3_errorPosition_91 (by decide) ?_
          refine q_sub (lv2 := [(0, .ref (gA G 8 0)), (1, .ref (gA G 7 0)), (2, .int ex), (3, .int sa), (4, .int tk)]) [0, 1, 2, 3, 4] rfl ?_
          exact hJ6 (-1) (by exact ((if_pos c4).trans rfl).symm)
      intro m5 e_m5
      have E : Z = (m5, ρ1, π1) := by subst e_m5; exact hZ.symm.trans ((if_pos c3).trans rfl)
      exact q_iret X hret dX3_errorPosition_98 (by rw [E]) (by rw [E])
    · skip
      refine q_iload_n X 3 dX3_errorPosition_31 rfl ?_
      refine q_aload_n X 1 dX3_errorPosition_32 rfl ?_
      refine q_geti (fk := 1) (x := τ 0) X cf_X8 (ac_6_0 hT_7) (by decide) fl_X3_33 rfl rfl dX3_errorPosition_33 ((va_up_ne _ _ (by decide)).trans ((va_up_ne _ _ (by decide)).trans (hr_7))) rfl ?_
      refine q_icmp_ge (tgt := 86) X dX3_errorPosition_36 (by decide) (fun c7 => ?_) (fun c7 => ?_)
      · skip
        refine q_iload_n X 2 dX3_errorPosition_86 rfl ?_
        suffices hJ10 : ∀ (m9 : Int32), m9 = (if ex = 0 then ((-1)) else (τ 0)) → VV G (AA G) p l e { frames := 5, cells := 0, slots := 0, locals := 114 } s m args below meth c 0 0 (MQ below (QC G (va_up (va_up h 8 Z.2.1) 9 Z.2.2) (some (.int Z.1))) args s 0 0 (AA G)) 6 (va_up (va_up h 8 ρ1) 9 π1) 98 [(0, .ref (gA G 8 0)), (1, .ref (gA G 7 0)), (2, .int ex), (3, .int sa), (4, .int tk)] [.int m9] by
          refine q_if_ne (tgt := 94) X dX3_errorPosition_87 (by decide) (fun c8 => ?_) (fun c8 => ?_)
          · skip
            refine q_aload_n X 1 dX3_errorPosition_94 rfl ?_
            refine q_geti (fk := 1) (x := τ 0) X cf_X8 (ac_6_0 hT_7) (by decide) fl_X3_33 rfl rfl dX3_errorPosition_95 ((va_up_ne _ _ (by decide)).trans ((va_up_ne _ _ (by decide)).trans (hr_7))) rfl ?_
            refine q_sub (lv2 := [(0, .ref (gA G 8 0)), (1, .ref (gA G 7 0)), (2, .int ex), (3, .int sa), (4, .int tk)]) [0, 1, 2, 3, 4] rfl ?_
            exact hJ10 (τ 0) (by exact ((if_neg c8).trans rfl).symm)
          · skip
            refine q_iconst (v := (-1)) X dX3_errorPosition_90 (by decide) ?_
            refine q_goto (tgt := 98) X dX3_errorPosition_91 (by decide) ?_
            refine q_sub (lv2 := [(0, .ref (gA G 8 0)), (1, .ref (gA G 7 0)), (2, .int ex), (3, .int sa), (4, .int tk)]) [0, 1, 2, 3, 4] rfl ?_
            exact hJ10 (-1) (by exact ((if_pos c8).trans rfl).symm)
        intro m9 e_m9
        have E : Z = (m9, ρ1, π1) := by subst e_m9; exact hZ.symm.trans ((if_neg c3).trans ((if_pos c7).trans rfl))
        exact q_iret X hret dX3_errorPosition_98 (by rw [E]) (by rw [E])
      · skip
        refine q_aload_n X 1 dX3_errorPosition_39 rfl ?_
        refine q_iload_n X 3 dX3_errorPosition_40 rfl ?_
        refine q_callV (h1 := _) (rest := []) (As := [.int sa]) X (c_X8_afterToken (l := l) hG (τ := τ)  sa hT_7 ((va_up_ne _ _ (by decide)).trans ((va_up_ne _ _ (by decide)).trans (hr_7)))) mf_X8_afterToken mv_X8_afterToken cf_X8 rfl (ac_6_0 hT_7) lk_X3_36 rfl ⟨by decide, by decide⟩ ⟨Nat.le_refl _, Nat.le_refl _⟩ rfl (Nat.le_of_ble_eq_true rfl) dX3_errorPosition_41 (st2 := [.int (S_X8_afterToken τ sa)]) rfl ?_
        refine q_istore (lv' := [(5, .int (S_X8_afterToken τ sa)), (0, .ref (gA G 8 0)), (1, .ref (gA G 7 0)), (2, .int ex), (3, .int sa), (4, .int tk)]) X dX3_errorPosition_44 (by decide) rfl ?_
        refine q_aload_n X 1 dX3_errorPosition_46 rfl ?_
        refine q_iload_n X 3 dX3_errorPosition_47 rfl ?_
        refine q_aload_n X 2 dX3_errorPosition_48 rfl ?_
        refine q_iload_n X 4 dX3_errorPosition_49 rfl ?_
        refine q_iload X 0 dX3_errorPosition_50 rfl ?_
        obtain ⟨r11, e_r11⟩ : ∃ z : Nat → Int32, z = (S_X3_takes ρ1 π1 τ ex sa (S_X8_afterToken τ sa)).2.1 := ⟨_, rfl⟩
        obtain ⟨r12, e_r12⟩ : ∃ z : Nat → Int32, z = (S_X3_takes ρ1 π1 τ ex sa (S_X8_afterToken τ sa)).2.2 := ⟨_, rfl⟩
        refine q_callV (h1 := _) (rest := []) (As := [.int ex, .ref (gA G 7 0), .int sa, .int (S_X8_afterToken τ sa)]) X (c_X3_takes (l := l) hG (ρ := ρ1) (π := π1) (τ := τ)  ex sa (S_X8_afterToken τ sa) hK ((va_up_ne _ _ (by decide)).trans (va_up_self _ _ _)) (va_up_self _ _ _) ((va_up_ne _ _ (by decide)).trans ((va_up_ne _ _ (by decide)).trans (hr_7)))) mf_X3_takes mv_X3_takes cf_X3 rfl (ac_7_0 hT_8) lk_X3_39 rfl ⟨by decide, by decide⟩ ⟨Nat.le_refl _, Nat.le_refl _⟩ rfl (Nat.le_of_ble_eq_true rfl) dX3_errorPosition_52 (st2 := [.int ((S_X3_takes ρ1 π1 τ ex sa (S_X8_afterToken τ sa)).1)]) rfl ?_
        refine q_eq (h2 := va_up (va_up h 8 r11) 9 r12) (by rw [← e_r11, ← e_r12]; (funext x; simp only [va_up]; (repeat' split) <;> first | rfl | omega)) rfl ?_
        refine q_if_ne (tgt := 60) X dX3_errorPosition_55 (by decide) (fun c13 => ?_) (fun c13 => ?_)
        · skip
          refine q_iload_n X 3 dX3_errorPosition_60 rfl ?_
          refine q_iconst (v := 2) X dX3_errorPosition_61 (by decide) ?_
          suffices hJ16 : ∀ (m15 : Int32), m15 = (if ex = 2 then (0) else (ex + 1)) → VV G (AA G) p l e { frames := 5, cells := 0, slots := 0, locals := 114 } s m args below meth c 0 0 (MQ below (QC G (va_up (va_up h 8 Z.2.1) 9 Z.2.2) (some (.int Z.1))) args s 0 0 (AA G)) 6 (va_up (va_up h 8 r11) 9 r12) 72 [(5, .int (S_X8_afterToken τ sa)), (0, .ref (gA G 8 0)), (1, .ref (gA G 7 0)), (2, .int ex), (3, .int sa), (4, .int tk)] [.int m15] by
            refine q_icmp_ne (tgt := 69) X dX3_errorPosition_62 (by decide) (fun c14 => ?_) (fun c14 => ?_)
            · skip
              refine q_iload_n X 3 dX3_errorPosition_69 rfl ?_
              refine q_iconst (v := 1) X dX3_errorPosition_70 (by decide) ?_
              refine q_iadd X dX3_errorPosition_71 ?_
              refine q_sub (lv2 := [(5, .int (S_X8_afterToken τ sa)), (0, .ref (gA G 8 0)), (1, .ref (gA G 7 0)), (2, .int ex), (3, .int sa), (4, .int tk)]) [0, 1, 2, 3, 4, 5] rfl ?_
              exact hJ16 (ex + 1) (by exact ((if_neg c14).trans rfl).symm)
            · skip
              refine q_iconst (v := 0) X dX3_errorPosition_65 (by decide) ?_
              refine q_goto (tgt := 72) X dX3_errorPosition_66 (by decide) ?_
              refine q_sub (lv2 := [(5, .int (S_X8_afterToken τ sa)), (0, .ref (gA G 8 0)), (1, .ref (gA G 7 0)), (2, .int ex), (3, .int sa), (4, .int tk)]) [0, 1, 2, 3, 4, 5] rfl ?_
              exact hJ16 0 (by exact ((if_pos c14).trans rfl).symm)
          intro m15 e_m15
          refine q_istore_n (lv' := [(2, .int m15), (5, .int (S_X8_afterToken τ sa)), (0, .ref (gA G 8 0)), (1, .ref (gA G 7 0)), (3, .int sa), (4, .int tk)]) X dX3_errorPosition_72 (by decide) rfl ?_
          refine q_aload_n X 3 dX3_errorPosition_73 rfl ?_
          refine q_iload X 1 dX3_errorPosition_74 rfl ?_
          refine q_callV (h1 := _) (rest := []) (As := [.int (S_X8_afterToken τ sa)]) X (c_X8_afterSpaces (l := l) hG (τ := τ)  (S_X8_afterToken τ sa) hT_7 ((va_up_ne _ _ (by decide)).trans ((va_up_ne _ _ (by decide)).trans (hr_7)))) mf_X8_afterSpaces mv_X8_afterSpaces cf_X8 rfl (ac_6_0 hT_7) lk_X3_27 rfl ⟨by decide, by decide⟩ ⟨Nat.le_refl _, Nat.le_refl _⟩ rfl (Nat.le_of_ble_eq_true rfl) dX3_errorPosition_76 (st2 := [.int (S_X8_afterSpaces τ (S_X8_afterToken τ sa))]) rfl ?_
          refine q_istore_n (lv' := [(3, .int (S_X8_afterSpaces τ (S_X8_afterToken τ sa))), (2, .int m15), (5, .int (S_X8_afterToken τ sa)), (0, .ref (gA G 8 0)), (1, .ref (gA G 7 0)), (4, .int tk)]) X dX3_errorPosition_79 (by decide) rfl ?_
          refine q_iinc (v := tk + 1) (lv' := [(4, .int (tk + 1)), (3, .int (S_X8_afterSpaces τ (S_X8_afterToken τ sa))), (2, .int m15), (5, .int (S_X8_afterToken τ sa)), (0, .ref (gA G 8 0)), (1, .ref (gA G 7 0))]) X 5 dX3_errorPosition_80 rfl rfl (by decide) rfl ?_
          refine q_goto (tgt := 24) X dX3_errorPosition_83 (by decide) ?_
          refine q_sub (lv2 := [(0, .ref (gA G 8 0)), (1, .ref (gA G 7 0)), (2, .int m15), (3, .int (S_X8_afterSpaces τ (S_X8_afterToken τ sa))), (4, .int (tk + 1))]) [4, 5, 2, 1, 0] rfl ?_
          have E : L_X3_errorPosition_24 fu ρ π τ m15 (S_X8_afterSpaces τ (S_X8_afterToken τ sa)) (tk + 1) r11 r12 = Z := Eq.trans (Eq.symm (by subst e_m15; subst e_r12; subst e_r11; exact (if_neg c3).trans ((if_neg c7).trans ((if_neg c13).trans rfl)))) hZ
          exact ih m15 (S_X8_afterSpaces τ (S_X8_afterToken τ sa)) (tk + 1) r11 r12  (by subst e_m15; subst e_r12; subst e_r11; exact ms_up c3 hm) E
        · skip
          refine q_iload_n X 4 dX3_errorPosition_58 rfl ?_
          have E : Z = (sa, r11, r12) := by subst e_r12; subst e_r11; exact hZ.symm.trans ((if_neg c3).trans ((if_neg c7).trans ((if_pos c13).trans rfl)))
          exact q_iret X hret dX3_errorPosition_59 (by rw [E]) (by rw [E])
set_option maxRecDepth 100000 in
set_option maxHeartbeats 4000000 in
theorem c_X3_errorPosition {G : Geo} {l : Launch} (hG : GOK G) {h : Hp} {ρ : Nat → Int32} {π : Nat → Int32} {τ : Nat → Int32} (hK : KT G) (hr_8 : h 8 = ρ) (hr_9 : h 9 = π) (hr_7 : h 7 = τ) : CM G l yX3_errorPosition cX3_errorPosition 6 (some .int) 5 114 [.ref (gA G 8 0), .ref (gA G 7 0)] h (va_up (va_up h 8 ((S_X3_errorPosition ρ π τ).2.1)) 9 ((S_X3_errorPosition ρ π τ).2.2)) (some (.int ((S_X3_errorPosition ρ π τ).1))) := by
  obtain ⟨Z, hZ⟩ : ∃ Z, S_X3_errorPosition ρ π τ = Z := ⟨_, rfl⟩
  rw [hZ]
  refine q_enter hG mf_X3_errorPosition (Nat.le_of_ble_eq_true rfl) ?_
  intro p e s m below meth c X hret
  have hT_8 : gT G 8 = 7 := hK 8 (by decide)
  have hT_9 : gT G 9 = 3 := hK 9 (by decide)
  have hT_7 : gT G 7 = 6 := hK 7 (by decide)
  refine q_lv (lv2 := [(0, .ref (gA G 8 0)), (1, .ref (gA G 7 0))]) rfl ?_
  refine q_aload_n X 0 dX3_errorPosition_0 rfl ?_
  refine q_get (fk := 0) (v := .ref (gA G 9 0)) X cf_X3 (ac_7_0 hT_8) (by decide) fl_X3_14 rfl rfl dX3_errorPosition_1 rfl ?_
  refine q_iconst (v := 0) X dX3_errorPosition_4 (by decide) ?_
  obtain ⟨r1, e_r1⟩ : ∃ z : Nat → Int32, z = va_up π 0 0 := ⟨_, rfl⟩
  refine q_put (fk := 2) (h2 := va_up h 9 r1) X cf_X6 (ac_3_0 hT_9) (by decide) fl_X3_24 rfl rfl (by rw [hT_9]; rfl) rfl rfl rfl dX3_errorPosition_5 (hr_9) (by rw [e_r1]) ?_
  refine q_aload_n X 0 dX3_errorPosition_8 rfl ?_
  refine q_iconst (v := (-1)) X dX3_errorPosition_9 (by decide) ?_
  obtain ⟨r2, e_r2⟩ : ∃ z : Nat → Int32, z = va_up ρ 0 (-1) := ⟨_, rfl⟩
  refine q_put (fk := 1) (h2 := va_up (va_up h 9 r1) 8 r2) X cf_X3 (ac_7_0 hT_8) (by decide) fl_X3_20 rfl rfl (by rw [hT_8]; rfl) rfl rfl rfl dX3_errorPosition_10 ((va_up_ne _ _ (by decide)).trans (hr_8)) (by rw [e_r2]) ?_
  refine q_iconst (v := 0) X dX3_errorPosition_13 (by decide) ?_
  refine q_istore_n (lv' := [(2, .int 0), (0, .ref (gA G 8 0)), (1, .ref (gA G 7 0))]) X dX3_errorPosition_14 (by decide) rfl ?_
  refine q_aload_n X 2 dX3_errorPosition_15 rfl ?_
  refine q_iconst (v := 0) X dX3_errorPosition_16 (by decide) ?_
  refine q_callV (h1 := _) (rest := []) (As := [.int 0]) X (c_X8_afterSpaces (l := l) hG (τ := τ)  0 hT_7 ((va_up_ne _ _ (by decide)).trans ((va_up_ne _ _ (by decide)).trans (hr_7)))) mf_X8_afterSpaces mv_X8_afterSpaces cf_X8 rfl (ac_6_0 hT_7) lk_X3_27 rfl ⟨by decide, by decide⟩ ⟨Nat.le_refl _, Nat.le_refl _⟩ rfl (Nat.le_of_ble_eq_true rfl) dX3_errorPosition_17 (st2 := [.int (S_X8_afterSpaces τ 0)]) rfl ?_
  refine q_istore_n (lv' := [(3, .int (S_X8_afterSpaces τ 0)), (2, .int 0), (0, .ref (gA G 8 0)), (1, .ref (gA G 7 0))]) X dX3_errorPosition_20 (by decide) rfl ?_
  refine q_iconst (v := 0) X dX3_errorPosition_21 (by decide) ?_
  refine q_istore (lv' := [(4, .int 0), (3, .int (S_X8_afterSpaces τ 0)), (2, .int 0), (0, .ref (gA G 8 0)), (1, .ref (gA G 7 0))]) X dX3_errorPosition_22 (by decide) rfl ?_
  refine q_sub (lv2 := [(0, .ref (gA G 8 0)), (1, .ref (gA G 7 0)), (2, .int 0), (3, .int (S_X8_afterSpaces τ 0)), (4, .int 0)]) [3, 4, 2, 1, 0] rfl ?_
  refine q_eq (h2 := va_up (va_up h 8 r2) 9 r1) (by funext x; simp only [va_up]; (repeat' split) <;> first | rfl | omega) rfl ?_
  have E : L_X3_errorPosition_24 101 ρ π τ 0 (S_X8_afterSpaces τ 0) 0 r2 r1 = Z := Eq.trans (Eq.symm (by subst e_r2; subst e_r1; exact rfl)) hZ
  exact w_X3_errorPosition_24 X hret hK hr_8 hr_9 hr_7 Z 101 0 (S_X8_afterSpaces τ 0) 0 r2 r1  (by subst e_r2; subst e_r1; decide) E
