/-- the log as the reference keeps it: how many, and their numbers -/
def LGI (σ : Nat → Int32) : Prop := (0 ≤ (σ 63).toInt ∧ (σ 63).toInt ≤ 8) ∧ ((σ 63).toInt ≤ (σ 62).toInt ∧ (σ 62).toInt ≤ 1000) ∧ ∀ j : Nat, (j : Int) < (σ 63).toInt → (σ (64 + 6 * j)).toInt = (σ 62).toInt - j
/-- the sums of the slope over the numbers seen: how many, their sum, their squares' sum -/
def DI (D k N X Q : Int) : Prop := (0 ≤ N ∧ N ≤ k) ∧ (0 ≤ X ∧ X ≤ 1000 * k) ∧ (0 ≤ Q ∧ Q ≤ 1000000 * k) ∧ (∀ y : Int, y ≤ D - k → N ≤ Q - 2 * X * y + N * (y * y)) ∧ 0 ≤ N * Q - X * X ∧ (2 ≤ N → 1 ≤ N * Q - X * X)
theorem DI_0 (D : Int) : DI D 0 0 0 0 := ⟨⟨by omega, by omega⟩, ⟨by omega, by omega⟩, ⟨by omega, by omega⟩, fun y _ => by simp, by omega, fun h => by omega⟩
theorem DI_skip {D k N X Q : Int} (h : DI D k N X Q) : DI D (k + 1) N X Q := by
  obtain ⟨h1, h2, h3, h4, h5⟩ := h
  exact ⟨⟨h1.1, by omega⟩, ⟨h2.1, by omega⟩, ⟨h3.1, by omega⟩, fun y hy => h4 y (by omega), h5⟩
theorem DI_add {D k N X Q x : Int} (h : DI D k N X Q) (hx : x = D - k) (h0 : 0 ≤ x) (h1000 : x ≤ 1000) : DI D (k + 1) (N + 1) (X + x) (Q + x * x) := by
  obtain ⟨h1, h2, h3, h4, h5, h6⟩ := h
  have hxx : 0 ≤ x * x := Int.mul_nonneg h0 h0
  have hxx2 : x * x ≤ 1000 * 1000 := Int.mul_le_mul h1000 h1000 h0 (by decide)
  have hf := h4 x (by omega)
  have e : (N + 1) * (Q + x * x) - (X + x) * (X + x) = (N * Q - X * X) + (Q - 2 * X * x + N * (x * x)) := by grind
  refine ⟨⟨by omega, by omega⟩, ⟨by omega, by omega⟩, ⟨by omega, by omega⟩, fun y hy => ?_, by rw [e]; omega, fun hN => by rw [e]; omega⟩
  have hg := h4 y (by omega)
  have e2 : Q + x * x - 2 * (X + x) * y + (N + 1) * (y * y) = (Q - 2 * X * y + N * (y * y)) + (x - y) * (x - y) := by grind
  have hp : 1 * 1 ≤ (x - y) * (x - y) := Int.mul_le_mul (by omega) (by omega) (by decide) (by omega)
  rw [e2]
  omega
def DI64 (σ : Nat → Int32) (k : Int32) (nn sx sxx : Int64) : Prop := DI (σ 62).toInt k.toInt nn.toInt sx.toInt sxx.toInt
theorem la {a b : Int64} (h1 : -9000000000000000000 ≤ a.toInt + b.toInt) (h2 : a.toInt + b.toInt ≤ 9000000000000000000) : (a + b).toInt = a.toInt + b.toInt := by
  rw [Int64.toInt_add]
  exact Int.bmod_eq_of_le (by omega) (by omega)
theorem ls {a b : Int64} (h1 : -9000000000000000000 ≤ a.toInt - b.toInt) (h2 : a.toInt - b.toInt ≤ 9000000000000000000) : (a - b).toInt = a.toInt - b.toInt := by
  rw [Int64.toInt_sub]
  exact Int.bmod_eq_of_le (by omega) (by omega)
theorem lm {a b : Int64} (h1 : -9000000000000000000 ≤ a.toInt * b.toInt) (h2 : a.toInt * b.toInt ≤ 9000000000000000000) : (a * b).toInt = a.toInt * b.toInt := by
  rw [Int64.toInt_mul]
  exact Int.bmod_eq_of_le (by omega) (by omega)
theorem dr_x {σ : Nat → Int32} {k : Int32} (hl : LGI σ) (hk : 0 ≤ k.toInt) (c : ¬ σ 63 ≤ k) : (σ (Int32.toNatClampNeg (64 + 6 * k))).toInt = (σ 62).toInt - k.toInt ∧ (0 ≤ (σ 62).toInt - k.toInt ∧ (σ 62).toInt - k.toInt ≤ 1000) ∧ k.toInt ≤ 7 := by
  obtain ⟨h1, h2, h3⟩ := hl
  have h4 := nle c
  have hk7 : k.toInt ≤ 7 := by omega
  have e := (e_log (k := k) (w := 0) ⟨hk, hk7⟩ (by decide)).1
  have n := clN (x := 64 + 6 * k) (by omega)
  obtain ⟨K, hK⟩ : ∃ K : Nat, k.toInt = K := ⟨k.toInt.toNat, by omega⟩
  rw [e, hK] at n
  have n2 : Int32.toNatClampNeg (64 + 6 * k) = 64 + 6 * K := by clear e h3; omega
  rw [n2]
  have h5 := h3 K (by rw [← hK]; exact h4)
  rw [h5, hK]
  rw [hK] at h4 hk7
  clear n n2 e h3 h5 c
  refine ⟨rfl, ⟨by omega, by omega⟩, hk7⟩
theorem DI_st {σ : Nat → Int32} {k : Int32} {nn sx sxx : Int64} {P : Prop} [Decidable P] (hl : LGI σ) (hk : 0 ≤ k.toInt) (c : ¬ σ 63 ≤ k) (hD : DI64 σ k nn sx sxx) : DI64 σ (k + 1) (if P then nn else nn + 1) (if P then sx else sx + Int32.toInt64 (σ (Int32.toNatClampNeg (64 + 6 * k)))) (if P then sxx else sxx + Int32.toInt64 (σ (Int32.toNatClampNeg (64 + 6 * k))) * Int32.toInt64 (σ (Int32.toNatClampNeg (64 + 6 * k)))) := by
  obtain ⟨h1, h2, h3⟩ := dr_x hl hk c
  generalize σ (Int32.toNatClampNeg (64 + 6 * k)) = x at h1 ⊢
  unfold DI64 at hD ⊢
  have ek : (k + 1).toInt = k.toInt + 1 := ta (b := 1) (by show -2147483648 ≤ k.toInt + 1; omega) (by show k.toInt + 1 < 2147483648; omega)
  rw [ek]
  by_cases hP : P
  · rw [if_pos hP, if_pos hP, if_pos hP]
    exact DI_skip hD
  · rw [if_neg hP, if_neg hP, if_neg hP]
    have ex : (Int32.toInt64 x).toInt = x.toInt := Int32.toInt_toInt64 x
    have hA := DI_add (x := x.toInt) hD h1 (by rw [h1]; exact h2.1) (by rw [h1]; exact h2.2)
    obtain ⟨d1, d2, d3, -⟩ := hA
    have o : (1 : Int64).toInt = 1 := rfl
    have e1 : (nn + 1).toInt = nn.toInt + 1 := la (by rw [o]; clear ek ex; omega) (by rw [o]; clear ek ex; omega)
    have e2 : (sx + Int32.toInt64 x).toInt = sx.toInt + x.toInt := by rw [la (by rw [ex]; clear ek e1; omega) (by rw [ex]; clear ek e1; omega), ex]
    have e3 : (Int32.toInt64 x * Int32.toInt64 x).toInt = x.toInt * x.toInt := by
      have p0 : 0 ≤ x.toInt * x.toInt := Int.mul_nonneg (by omega) (by omega)
      have p1 : x.toInt * x.toInt ≤ 1000 * 1000 := Int.mul_le_mul (by omega) (by omega) (by omega) (by decide)
      rw [lm (by rw [ex]; clear ek e1 e2; omega) (by rw [ex]; clear ek e1 e2; omega), ex]
    have e4 : (sxx + Int32.toInt64 x * Int32.toInt64 x).toInt = sxx.toInt + x.toInt * x.toInt := by rw [la (by rw [e3]; clear ek e1 e2; omega) (by rw [e3]; clear ek e1 e2; omega), e3]
    rw [e1, e2, e4]
    exact DI_add hD h1 (by rw [h1]; exact h2.1) (by rw [h1]; exact h2.2)
theorem lgc2 {x : Int64} (h : 0 ≤ lg_cmp x 2) : 2 ≤ x.toInt := by
  unfold lg_cmp at h
  by_cases h1 : x > 2
  · have := Int64.lt_iff_toInt_lt.mp h1
    have : (2 : Int64).toInt = 2 := rfl
    omega
  · rw [if_neg h1] at h
    by_cases h2 : x = 2
    · rw [h2]; decide
    · rw [if_neg h2] at h
      exact absurd h (by decide)
/-- what stands below the line is positive -/
theorem DI_pos {σ : Nat → Int32} {k : Int32} {nn sx sxx : Int64} (hk8 : k.toInt ≤ 8) (hD : DI64 σ k nn sx sxx) (h : 0 ≤ lg_cmp nn 2) : 0 < (nn * sxx - sx * sx).toInt := by
  obtain ⟨d1, d2, d3, d4, d5, d6⟩ := hD
  have h2 := lgc2 h
  have h3 := d6 h2
  have p0 : 0 ≤ nn.toInt * sxx.toInt := Int.mul_nonneg (by omega) (by omega)
  have p1 : nn.toInt * sxx.toInt ≤ 8 * 8000000 := Int.mul_le_mul (by omega) (by omega) (by omega) (by decide)
  have p2 : 0 ≤ sx.toInt * sx.toInt := Int.mul_nonneg (by omega) (by omega)
  have e1 : (nn * sxx).toInt = nn.toInt * sxx.toInt := lm (by omega) (by omega)
  have e2 : (sx * sx).toInt = sx.toInt * sx.toInt := lm (by omega) (by omega)
  rw [ls (by rw [e1, e2]; clear e1 e2; omega) (by rw [e1, e2]; clear e1 e2; omega), e1, e2]
  clear e1 e2
  omega
theorem DI_ne {σ : Nat → Int32} {k : Int32} {nn sx sxx : Int64} (hk8 : k.toInt ≤ 8) (hD : DI64 σ k nn sx sxx) (h : 0 ≤ lg_cmp nn 2) : ¬ nn * sxx - sx * sx = 0 := fun e => by
  have := DI_pos hk8 hD h
  rw [e] at this
  exact absurd this (by decide)
theorem ix_dr {σ : Nat → Int32} {k w : Int32} (hl : LGI σ) (hk : 0 ≤ k.toInt) (c : ¬ σ 63 ≤ k) (hw : ¬ S_X10_in w 1 5 = 0) : vp_in (64 + 6 * k) 112 ∧ vp_in (64 + 6 * k + w) 112 := by
  have h1 := (dr_x hl hk c).2.2
  have h2 := in_of hw
  have : (1 : Int32).toInt = 1 := rfl
  have : (5 : Int32).toInt = 5 := rfl
  exact ix_log ⟨hk, h1⟩ ⟨by omega, by omega⟩
theorem k8_st {σ : Nat → Int32} {k : Int32} (hl : LGI σ) (hk : 0 ≤ k.toInt) (c : ¬ σ 63 ≤ k) : (k + 1).toInt ≤ 8 := by
  have h1 := (dr_x hl hk c).2.2
  have ek : (k + 1).toInt = k.toInt + 1 := ta (b := 1) (by show -2147483648 ≤ k.toInt + 1; omega) (by show k.toInt + 1 < 2147483648; omega)
  omega
def L_X10_drift_34 (fu : Nat) (κ : Nat → Int32) (σ : Nat → Int32) (wh : Int32) (nn : Int64) (sx : Int64) (sv : Int64) (sxv : Int64) (sxx : Int64) (k : Int32) (κ1 : Nat → Int32) : Int32 × (Nat → Int32) := match fu with
  | 0 => (0, (fun _ => 0))
  | fu + 1 => if (σ 63) ≤ k then (if 0 ≤ (lg_cmp nn (2 : Int64)) then (let m6 : Int64 := if 0 ≤ (lg_cmp (((100 : Int64) * ((nn * sxv) - (sx * sv))) - ((100 : Int64) * ((nn * sxv) - (sx * sv))) / ((nn * sxx) - (sx * sx)) * ((nn * sxx) - (sx * sx))) (0 : Int64)) then (((100 : Int64) * ((nn * sxv) - (sx * sv))) / ((nn * sxx) - (sx * sx))) else ((((100 : Int64) * ((nn * sxv) - (sx * sv))) / ((nn * sxx) - (sx * sx))) - (1 : Int64)); (Int64.toInt32 m6, κ1)) else (((-100009), κ1))) else (let m9 : Int64 := if (lg_cmp (Int32.toInt64 (σ (Int32.toNatClampNeg ((64 + (6 * k)) + wh)))) (-100009 : Int64)) = 0 then (nn) else (nn + (1 : Int64)); let m10 : Int64 := if (lg_cmp (Int32.toInt64 (σ (Int32.toNatClampNeg ((64 + (6 * k)) + wh)))) (-100009 : Int64)) = 0 then (sx) else (sx + (Int32.toInt64 (σ (Int32.toNatClampNeg (64 + (6 * k)))))); let m11 : Int64 := if (lg_cmp (Int32.toInt64 (σ (Int32.toNatClampNeg ((64 + (6 * k)) + wh)))) (-100009 : Int64)) = 0 then (sv) else (sv + (Int32.toInt64 (σ (Int32.toNatClampNeg ((64 + (6 * k)) + wh))))); let m12 : Int64 := if (lg_cmp (Int32.toInt64 (σ (Int32.toNatClampNeg ((64 + (6 * k)) + wh)))) (-100009 : Int64)) = 0 then (sxv) else (sxv + ((Int32.toInt64 (σ (Int32.toNatClampNeg (64 + (6 * k))))) * (Int32.toInt64 (σ (Int32.toNatClampNeg ((64 + (6 * k)) + wh)))))); let m13 : Int64 := if (lg_cmp (Int32.toInt64 (σ (Int32.toNatClampNeg ((64 + (6 * k)) + wh)))) (-100009 : Int64)) = 0 then (sxx) else (sxx + ((Int32.toInt64 (σ (Int32.toNatClampNeg (64 + (6 * k))))) * (Int32.toInt64 (σ (Int32.toNatClampNeg (64 + (6 * k))))))); L_X10_drift_34 fu κ σ wh m9 m10 m11 m12 m13 (k + 1) κ1)
def S_X10_drift (κ : Nat → Int32) (σ : Nat → Int32) (wh : Int32) : Int32 × (Nat → Int32) := let r1 : Nat → Int32 := va_up κ 0 0; if (S_X10_in wh 1 5) = 0 then (((-100001), r1)) else (L_X10_drift_34 (((σ 63).toInt - (0 : Int32).toInt).toNat + 1) κ σ wh (0 : Int64) (0 : Int64) (0 : Int64) (0 : Int64) (0 : Int64) 0 r1)
set_option maxRecDepth 100000 in
set_option maxHeartbeats 4000000 in
theorem w_X10_drift_34 {G : Geo} {p : Program} {l : Launch} {e : Env} {s : State} {m : MethodId} {args : Array Value} {below : List Frame} {meth : Method} {c : Code} {h : Hp} {κ : Nat → Int32} {σ : Nat → Int32} {wh : Int32} (X : CX G (AA G) p s m meth c RX10 cX10_drift 18) (hret : meth.sig.returnType = (some .int)) (hM : MT G) (hr_36 : h 36 = κ) (hr_37 : h 37 = σ) (hl : LGI σ) (Z : Int32 × (Nat → Int32)) : ∀ (fu : Nat) (nn : Int64) (sx : Int64) (sv : Int64) (sxv : Int64) (sxx : Int64) (k : Int32) (κ1 : Nat → Int32), (0 ≤ k.toInt) → (k.toInt ≤ 8) → (¬ S_X10_in wh 1 5 = 0) → (DI64 σ k nn sx sxx) → ((σ 63).toInt - k.toInt).toNat < fu → L_X10_drift_34 fu κ σ wh nn sx sv sxv sxx k κ1 = Z → VV G (AA G) p l e { frames := 1, cells := 0, slots := 0, locals := 22 } s m args below meth c 0 0 (MQ below (QC G (va_up h 36 Z.2) (some (.int Z.1))) args s 0 0 (AA G)) 18 (va_up h 36 κ1) 34 [(0, .ref (gA G 36 0)), (1, .int wh), (2, .long nn), (4, .long sx), (6, .long sv), (8, .long sxv), (10, .long sxx), (12, .int k)] [] := by
  intro fu
  induction fu with
  | zero =>
    intro nn sx sv sxv sxx k κ1 hk hk8 hw hD hm
    exact absurd hm (Nat.not_lt_zero _)
  | succ fu ih =>
    intro nn sx sv sxv sxx k κ1 hk hk8 hw hD hm hZ
    have hG := X.2.2.2.2.2.1
    have hT_36 : gT G 36 = 9 := hM 36 (by decide) (by decide)
    have hT_37 : gT G 37 = 10 := hM 37 (by decide) (by decide)
    refine q_iload X 7 dX10_drift_34 rfl ?_
    refine q_aload_n X 0 dX10_drift_36 rfl ?_
    refine q_get (fk := 1) (v := .ref (gA G 37 0)) X cf_X10 (ac_9_0 hT_36) (by decide) fl_X10_7 rfl rfl dX10_drift_37 rfl ?_
    refine q_bipush (v := 63) X dX10_drift_40 (by decide) ?_
    refine q_iald (x := σ 63) X (ac_10_0 hT_37) (by rw [hT_37]; exact vin_lit (by decide)) dX10_drift_42 ((va_up_ne _ _ (by decide)).trans (hr_37)) rfl ?_
    refine q_icmp_ge (tgt := 133) X dX10_drift_43 (by decide) (fun c3 => ?_) (fun c3 => ?_)
    · skip
      refine q_lload_n X 2 dX10_drift_133 rfl ?_
      refine q_ldc2 X kl_X10_127 dX10_drift_134 ?_
      refine q_lcmp X dX10_drift_137 ?_
      refine q_if_ge (tgt := 144) X dX10_drift_138 (by decide) (fun c4 => ?_) (fun c4 => ?_)
      · skip
        refine q_ldc2 X kl_X10_129 dX10_drift_144 ?_
        refine q_lload_n X 2 dX10_drift_147 rfl ?_
        refine q_lload X 5 dX10_drift_148 rfl ?_
        refine q_lmul X dX10_drift_150 ?_
        refine q_lload X 3 dX10_drift_151 rfl ?_
        refine q_lload X 4 dX10_drift_153 rfl ?_
        refine q_lmul X dX10_drift_155 ?_
        refine q_lsub X dX10_drift_156 ?_
        refine q_lmul X dX10_drift_157 ?_
        refine q_lstore (lv' := [(12, .long ((100 : Int64) * ((nn * sxv) - (sx * sv)))), (0, .ref (gA G 36 0)), (1, .int wh), (2, .long nn), (4, .long sx), (6, .long sv), (8, .long sxv), (10, .long sxx)]) X dX10_drift_158 (by decide) rfl ?_
        refine q_lload_n X 3 dX10_drift_160 rfl ?_
        refine q_lload X 7 dX10_drift_161 rfl ?_
        refine q_lmul X dX10_drift_163 ?_
        refine q_lload X 4 dX10_drift_164 rfl ?_
        refine q_lload X 4 dX10_drift_166 rfl ?_
        refine q_lmul X dX10_drift_168 ?_
        refine q_lsub X dX10_drift_169 ?_
        refine q_lstore (lv' := [(14, .long ((nn * sxx) - (sx * sx))), (12, .long ((100 : Int64) * ((nn * sxv) - (sx * sv)))), (0, .ref (gA G 36 0)), (1, .int wh), (2, .long nn), (4, .long sx), (6, .long sv), (8, .long sxv), (10, .long sxx)]) X dX10_drift_170 (by decide) rfl ?_
        refine q_lload X 1 dX10_drift_172 rfl ?_
        refine q_lload X 0 dX10_drift_174 rfl ?_
        refine q_ldiv X dX10_drift_176 (DI_ne hk8 hD c4) ?_
        refine q_lstore (lv' := [(16, .long (((100 : Int64) * ((nn * sxv) - (sx * sv))) / ((nn * sxx) - (sx * sx)))), (14, .long ((nn * sxx) - (sx * sx))), (12, .long ((100 : Int64) * ((nn * sxv) - (sx * sv)))), (0, .ref (gA G 36 0)), (1, .int wh), (2, .long nn), (4, .long sx), (6, .long sv), (8, .long sxv), (10, .long sxx)]) X dX10_drift_177 (by decide) rfl ?_
        refine q_lload X 2 dX10_drift_179 rfl ?_
        refine q_lload X 1 dX10_drift_181 rfl ?_
        refine q_lrem X dX10_drift_183 (DI_ne hk8 hD c4) ?_
        refine q_lconst (v := 0) X dX10_drift_184 (by decide) ?_
        refine q_lcmp X dX10_drift_185 ?_
        suffices hJ7 : ∀ (m6 : Int64), m6 = (if 0 ≤ (lg_cmp (((100 : Int64) * ((nn * sxv) - (sx * sv))) - ((100 : Int64) * ((nn * sxv) - (sx * sv))) / ((nn * sxx) - (sx * sx)) * ((nn * sxx) - (sx * sx))) (0 : Int64)) then (((100 : Int64) * ((nn * sxv) - (sx * sv))) / ((nn * sxx) - (sx * sx))) else ((((100 : Int64) * ((nn * sxv) - (sx * sv))) / ((nn * sxx) - (sx * sx))) - (1 : Int64))) → VV G (AA G) p l e { frames := 1, cells := 0, slots := 0, locals := 22 } s m args below meth c 0 0 (MQ below (QC G (va_up h 36 Z.2) (some (.int Z.1))) args s 0 0 (AA G)) 18 (va_up h 36 κ1) 198 [(16, .long (((100 : Int64) * ((nn * sxv) - (sx * sv))) / ((nn * sxx) - (sx * sx)))), (14, .long ((nn * sxx) - (sx * sx))), (12, .long ((100 : Int64) * ((nn * sxv) - (sx * sv)))), (0, .ref (gA G 36 0)), (1, .int wh), (2, .long nn), (4, .long sx), (6, .long sv), (8, .long sxv), (10, .long sxx)] [.long m6] by
          refine q_if_ge (tgt := 196) X dX10_drift_186 (by decide) (fun c5 => ?_) (fun c5 => ?_)
          · skip
            refine q_lload X 0 dX10_drift_196 rfl ?_
            refine q_sub (lv2 := [(16, .long (((100 : Int64) * ((nn * sxv) - (sx * sv))) / ((nn * sxx) - (sx * sx)))), (14, .long ((nn * sxx) - (sx * sx))), (12, .long ((100 : Int64) * ((nn * sxv) - (sx * sv)))), (0, .ref (gA G 36 0)), (1, .int wh), (2, .long nn), (4, .long sx), (6, .long sv), (8, .long sxv), (10, .long sxx)]) [0, 1, 2, 3, 4, 5, 6, 7, 8, 9] rfl ?_
            exact hJ7 (((100 : Int64) * ((nn * sxv) - (sx * sv))) / ((nn * sxx) - (sx * sx))) (by exact ((if_pos c5).trans rfl).symm)
          · skip
            refine q_lload X 0 dX10_drift_189 rfl ?_
            refine q_lconst (v := 1) X dX10_drift_191 (by decide) ?_
            refine q_lsub X dX10_drift_192 ?_
            refine q_goto (tgt := 198) X dX10_drift_193 (by decide) ?_
            refine q_sub (lv2 := [(16, .long (((100 : Int64) * ((nn * sxv) - (sx * sv))) / ((nn * sxx) - (sx * sx)))), (14, .long ((nn * sxx) - (sx * sx))), (12, .long ((100 : Int64) * ((nn * sxv) - (sx * sv)))), (0, .ref (gA G 36 0)), (1, .int wh), (2, .long nn), (4, .long sx), (6, .long sv), (8, .long sxv), (10, .long sxx)]) [0, 1, 2, 3, 4, 5, 6, 7, 8, 9] rfl ?_
            exact hJ7 ((((100 : Int64) * ((nn * sxv) - (sx * sv))) / ((nn * sxx) - (sx * sx))) - (1 : Int64)) (by exact ((if_neg c5).trans rfl).symm)
        intro m6 e_m6
        refine q_l2i X dX10_drift_198 ?_
        have E : Z = (Int64.toInt32 m6, κ1) := by subst e_m6; exact hZ.symm.trans ((if_pos c3).trans ((if_pos c4).trans rfl))
        exact q_iret X hret dX10_drift_199 (by rw [E]) (by rw [E])
      · skip
        refine q_ldc X kc_X10_81 dX10_drift_141 ?_
        have E : Z = ((-100009), κ1) := by exact hZ.symm.trans ((if_pos c3).trans ((if_neg c4).trans rfl))
        exact q_iret X hret dX10_drift_143 (by rw [E]) (by rw [E])
    · skip
      refine q_aload_n X 0 dX10_drift_46 rfl ?_
      refine q_get (fk := 1) (v := .ref (gA G 37 0)) X cf_X10 (ac_9_0 hT_36) (by decide) fl_X10_7 rfl rfl dX10_drift_47 rfl ?_
      refine q_bipush (v := 64) X dX10_drift_50 (by decide) ?_
      refine q_bipush (v := 6) X dX10_drift_52 (by decide) ?_
      refine q_iload X 7 dX10_drift_54 rfl ?_
      refine q_imul X dX10_drift_56 ?_
      refine q_iadd X dX10_drift_57 ?_
      refine q_iald (x := σ (Int32.toNatClampNeg (64 + (6 * k)))) X (ac_10_0 hT_37) (by rw [hT_37]; exact (ix_dr hl hk c3 hw).1) dX10_drift_58 ((va_up_ne _ _ (by decide)).trans (hr_37)) (by rw [Nat.zero_add, Nat.one_mul]) ?_
      refine q_i2l X dX10_drift_59 ?_
      refine q_lstore (lv' := [(13, .long (Int32.toInt64 (σ (Int32.toNatClampNeg (64 + (6 * k)))))), (0, .ref (gA G 36 0)), (1, .int wh), (2, .long nn), (4, .long sx), (6, .long sv), (8, .long sxv), (10, .long sxx), (12, .int k)]) X dX10_drift_60 (by decide) rfl ?_
      refine q_aload_n X 1 dX10_drift_62 rfl ?_
      refine q_get (fk := 1) (v := .ref (gA G 37 0)) X cf_X10 (ac_9_0 hT_36) (by decide) fl_X10_7 rfl rfl dX10_drift_63 rfl ?_
      refine q_bipush (v := 64) X dX10_drift_66 (by decide) ?_
      refine q_bipush (v := 6) X dX10_drift_68 (by decide) ?_
      refine q_iload X 8 dX10_drift_70 rfl ?_
      refine q_imul X dX10_drift_72 ?_
      refine q_iadd X dX10_drift_73 ?_
      refine q_iload_n X 2 dX10_drift_74 rfl ?_
      refine q_iadd X dX10_drift_75 ?_
      refine q_iald (x := σ (Int32.toNatClampNeg ((64 + (6 * k)) + wh))) X (ac_10_0 hT_37) (by rw [hT_37]; exact (ix_dr hl hk c3 hw).2) dX10_drift_76 ((va_up_ne _ _ (by decide)).trans (hr_37)) (by rw [Nat.zero_add, Nat.one_mul]) ?_
      refine q_i2l X dX10_drift_77 ?_
      refine q_lstore (lv' := [(15, .long (Int32.toInt64 (σ (Int32.toNatClampNeg ((64 + (6 * k)) + wh))))), (13, .long (Int32.toInt64 (σ (Int32.toNatClampNeg (64 + (6 * k)))))), (0, .ref (gA G 36 0)), (1, .int wh), (2, .long nn), (4, .long sx), (6, .long sv), (8, .long sxv), (10, .long sxx), (12, .int k)]) X dX10_drift_78 (by decide) rfl ?_
      refine q_lload X 0 dX10_drift_80 rfl ?_
      refine q_ldc2 X kl_X10_125 dX10_drift_82 ?_
      refine q_lcmp X dX10_drift_85 ?_
      suffices hJ14 : ∀ (m9 : Int64) (m10 : Int64) (m11 : Int64) (m12 : Int64) (m13 : Int64), m9 = (if (lg_cmp (Int32.toInt64 (σ (Int32.toNatClampNeg ((64 + (6 * k)) + wh)))) (-100009 : Int64)) = 0 then (nn) else (nn + (1 : Int64))) → m10 = (if (lg_cmp (Int32.toInt64 (σ (Int32.toNatClampNeg ((64 + (6 * k)) + wh)))) (-100009 : Int64)) = 0 then (sx) else (sx + (Int32.toInt64 (σ (Int32.toNatClampNeg (64 + (6 * k))))))) → m11 = (if (lg_cmp (Int32.toInt64 (σ (Int32.toNatClampNeg ((64 + (6 * k)) + wh)))) (-100009 : Int64)) = 0 then (sv) else (sv + (Int32.toInt64 (σ (Int32.toNatClampNeg ((64 + (6 * k)) + wh)))))) → m12 = (if (lg_cmp (Int32.toInt64 (σ (Int32.toNatClampNeg ((64 + (6 * k)) + wh)))) (-100009 : Int64)) = 0 then (sxv) else (sxv + ((Int32.toInt64 (σ (Int32.toNatClampNeg (64 + (6 * k))))) * (Int32.toInt64 (σ (Int32.toNatClampNeg ((64 + (6 * k)) + wh))))))) → m13 = (if (lg_cmp (Int32.toInt64 (σ (Int32.toNatClampNeg ((64 + (6 * k)) + wh)))) (-100009 : Int64)) = 0 then (sxx) else (sxx + ((Int32.toInt64 (σ (Int32.toNatClampNeg (64 + (6 * k))))) * (Int32.toInt64 (σ (Int32.toNatClampNeg (64 + (6 * k)))))))) → VV G (AA G) p l e { frames := 1, cells := 0, slots := 0, locals := 22 } s m args below meth c 0 0 (MQ below (QC G (va_up h 36 Z.2) (some (.int Z.1))) args s 0 0 (AA G)) 18 (va_up h 36 κ1) 127 [(15, .long (Int32.toInt64 (σ (Int32.toNatClampNeg ((64 + (6 * k)) + wh))))), (13, .long (Int32.toInt64 (σ (Int32.toNatClampNeg (64 + (6 * k)))))), (0, .ref (gA G 36 0)), (1, .int wh), (2, .long m9), (4, .long m10), (6, .long m11), (8, .long m12), (10, .long m13), (12, .int k)] [] by
        refine q_if_eq (tgt := 127) X dX10_drift_86 (by decide) (fun c8 => ?_) (fun c8 => ?_)
        · skip
          refine q_sub (lv2 := [(15, .long (Int32.toInt64 (σ (Int32.toNatClampNeg ((64 + (6 * k)) + wh))))), (13, .long (Int32.toInt64 (σ (Int32.toNatClampNeg (64 + (6 * k)))))), (0, .ref (gA G 36 0)), (1, .int wh), (2, .long nn), (4, .long sx), (6, .long sv), (8, .long sxv), (10, .long sxx), (12, .int k)]) [0, 1, 2, 3, 4, 5, 6, 7, 8, 9] rfl ?_
          exact hJ14 nn sx sv sxv sxx (by exact ((if_pos c8).trans rfl).symm) (by exact ((if_pos c8).trans rfl).symm) (by exact ((if_pos c8).trans rfl).symm) (by exact ((if_pos c8).trans rfl).symm) (by exact ((if_pos c8).trans rfl).symm)
        · skip
          refine q_lload_n X 4 dX10_drift_89 rfl ?_
          refine q_lconst (v := 1) X dX10_drift_90 (by decide) ?_
          refine q_ladd X dX10_drift_91 ?_
          refine q_lstore_n (lv' := [(2, .long (nn + (1 : Int64))), (15, .long (Int32.toInt64 (σ (Int32.toNatClampNeg ((64 + (6 * k)) + wh))))), (13, .long (Int32.toInt64 (σ (Int32.toNatClampNeg (64 + (6 * k)))))), (0, .ref (gA G 36 0)), (1, .int wh), (4, .long sx), (6, .long sv), (8, .long sxv), (10, .long sxx), (12, .int k)]) X dX10_drift_92 (by decide) rfl ?_
          refine q_lload X 5 dX10_drift_93 rfl ?_
          refine q_lload X 2 dX10_drift_95 rfl ?_
          refine q_ladd X dX10_drift_97 ?_
          refine q_lstore (lv' := [(4, .long (sx + (Int32.toInt64 (σ (Int32.toNatClampNeg (64 + (6 * k))))))), (2, .long (nn + (1 : Int64))), (15, .long (Int32.toInt64 (σ (Int32.toNatClampNeg ((64 + (6 * k)) + wh))))), (13, .long (Int32.toInt64 (σ (Int32.toNatClampNeg (64 + (6 * k)))))), (0, .ref (gA G 36 0)), (1, .int wh), (6, .long sv), (8, .long sxv), (10, .long sxx), (12, .int k)]) X dX10_drift_98 (by decide) rfl ?_
          refine q_lload X 6 dX10_drift_100 rfl ?_
          refine q_lload X 2 dX10_drift_102 rfl ?_
          refine q_ladd X dX10_drift_104 ?_
          refine q_lstore (lv' := [(6, .long (sv + (Int32.toInt64 (σ (Int32.toNatClampNeg ((64 + (6 * k)) + wh)))))), (4, .long (sx + (Int32.toInt64 (σ (Int32.toNatClampNeg (64 + (6 * k))))))), (2, .long (nn + (1 : Int64))), (15, .long (Int32.toInt64 (σ (Int32.toNatClampNeg ((64 + (6 * k)) + wh))))), (13, .long (Int32.toInt64 (σ (Int32.toNatClampNeg (64 + (6 * k)))))), (0, .ref (gA G 36 0)), (1, .int wh), (8, .long sxv), (10, .long sxx), (12, .int k)]) X dX10_drift_105 (by decide) rfl ?_
          refine q_lload X 7 dX10_drift_107 rfl ?_
          refine q_lload X 4 dX10_drift_109 rfl ?_
          refine q_lload X 3 dX10_drift_111 rfl ?_
          refine q_lmul X dX10_drift_113 ?_
          refine q_ladd X dX10_drift_114 ?_
          refine q_lstore (lv' := [(8, .long (sxv + ((Int32.toInt64 (σ (Int32.toNatClampNeg (64 + (6 * k))))) * (Int32.toInt64 (σ (Int32.toNatClampNeg ((64 + (6 * k)) + wh))))))), (6, .long (sv + (Int32.toInt64 (σ (Int32.toNatClampNeg ((64 + (6 * k)) + wh)))))), (4, .long (sx + (Int32.toInt64 (σ (Int32.toNatClampNeg (64 + (6 * k))))))), (2, .long (nn + (1 : Int64))), (15, .long (Int32.toInt64 (σ (Int32.toNatClampNeg ((64 + (6 * k)) + wh))))), (13, .long (Int32.toInt64 (σ (Int32.toNatClampNeg (64 + (6 * k)))))), (0, .ref (gA G 36 0)), (1, .int wh), (10, .long sxx), (12, .int k)]) X dX10_drift_115 (by decide) rfl ?_
          refine q_lload X 8 dX10_drift_117 rfl ?_
          refine q_lload X 5 dX10_drift_119 rfl ?_
          refine q_lload X 5 dX10_drift_121 rfl ?_
          refine q_lmul X dX10_drift_123 ?_
          refine q_ladd X dX10_drift_124 ?_
          refine q_lstore (lv' := [(10, .long (sxx + ((Int32.toInt64 (σ (Int32.toNatClampNeg (64 + (6 * k))))) * (Int32.toInt64 (σ (Int32.toNatClampNeg (64 + (6 * k)))))))), (8, .long (sxv + ((Int32.toInt64 (σ (Int32.toNatClampNeg (64 + (6 * k))))) * (Int32.toInt64 (σ (Int32.toNatClampNeg ((64 + (6 * k)) + wh))))))), (6, .long (sv + (Int32.toInt64 (σ (Int32.toNatClampNeg ((64 + (6 * k)) + wh)))))), (4, .long (sx + (Int32.toInt64 (σ (Int32.toNatClampNeg (64 + (6 * k))))))), (2, .long (nn + (1 : Int64))), (15, .long (Int32.toInt64 (σ (Int32.toNatClampNeg ((64 + (6 * k)) + wh))))), (13, .long (Int32.toInt64 (σ (Int32.toNatClampNeg (64 + (6 * k)))))), (0, .ref (gA G 36 0)), (1, .int wh), (12, .int k)]) X dX10_drift_125 (by decide) rfl ?_
          refine q_sub (lv2 := [(15, .long (Int32.toInt64 (σ (Int32.toNatClampNeg ((64 + (6 * k)) + wh))))), (13, .long (Int32.toInt64 (σ (Int32.toNatClampNeg (64 + (6 * k)))))), (0, .ref (gA G 36 0)), (1, .int wh), (2, .long (nn + (1 : Int64))), (4, .long (sx + (Int32.toInt64 (σ (Int32.toNatClampNeg (64 + (6 * k))))))), (6, .long (sv + (Int32.toInt64 (σ (Int32.toNatClampNeg ((64 + (6 * k)) + wh)))))), (8, .long (sxv + ((Int32.toInt64 (σ (Int32.toNatClampNeg (64 + (6 * k))))) * (Int32.toInt64 (σ (Int32.toNatClampNeg ((64 + (6 * k)) + wh))))))), (10, .long (sxx + ((Int32.toInt64 (σ (Int32.toNatClampNeg (64 + (6 * k))))) * (Int32.toInt64 (σ (Int32.toNatClampNeg (64 + (6 * k)))))))), (12, .int k)]) [5, 6, 7, 8, 4, 3, 2, 1, 0, 9] rfl ?_
          exact hJ14 (nn + (1 : Int64)) (sx + (Int32.toInt64 (σ (Int32.toNatClampNeg (64 + (6 * k)))))) (sv + (Int32.toInt64 (σ (Int32.toNatClampNeg ((64 + (6 * k)) + wh))))) (sxv + ((Int32.toInt64 (σ (Int32.toNatClampNeg (64 + (6 * k))))) * (Int32.toInt64 (σ (Int32.toNatClampNeg ((64 + (6 * k)) + wh)))))) (sxx + ((Int32.toInt64 (σ (Int32.toNatClampNeg (64 + (6 * k))))) * (Int32.toInt64 (σ (Int32.toNatClampNeg (64 + (6 * k))))))) (by exact ((if_neg c8).trans rfl).symm) (by exact ((if_neg c8).trans rfl).symm) (by exact ((if_neg c8).trans rfl).symm) (by exact ((if_neg c8).trans rfl).symm) (by exact ((if_neg c8).trans rfl).symm)
      intro m9 m10 m11 m12 m13 e_m9 e_m10 e_m11 e_m12 e_m13
      refine q_iinc (v := k + 1) (lv' := [(12, .int (k + 1)), (15, .long (Int32.toInt64 (σ (Int32.toNatClampNeg ((64 + (6 * k)) + wh))))), (13, .long (Int32.toInt64 (σ (Int32.toNatClampNeg (64 + (6 * k)))))), (0, .ref (gA G 36 0)), (1, .int wh), (2, .long m9), (4, .long m10), (6, .long m11), (8, .long m12), (10, .long m13)]) X 9 dX10_drift_127 rfl rfl (by decide) rfl ?_
      refine q_goto (tgt := 34) X dX10_drift_130 (by decide) ?_
      refine q_sub (lv2 := [(0, .ref (gA G 36 0)), (1, .int wh), (2, .long m9), (4, .long m10), (6, .long m11), (8, .long m12), (10, .long m13), (12, .int (k + 1))]) [3, 4, 5, 6, 7, 8, 9, 0] rfl ?_
      have E : L_X10_drift_34 fu κ σ wh m9 m10 m11 m12 m13 (k + 1) κ1 = Z := Eq.trans (Eq.symm (by subst e_m13; subst e_m12; subst e_m11; subst e_m10; subst e_m9; exact (if_neg c3).trans rfl)) hZ
      exact ih m9 m10 m11 m12 m13 (k + 1) κ1 (by subst e_m13; subst e_m12; subst e_m11; subst e_m10; subst e_m9; exact stp c3 hk) (by subst e_m13; subst e_m12; subst e_m11; subst e_m10; subst e_m9; exact k8_st hl hk c3) (by subst e_m13; subst e_m12; subst e_m11; subst e_m10; subst e_m9; exact hw) (by subst e_m13; subst e_m12; subst e_m11; subst e_m10; subst e_m9; exact DI_st hl hk c3 hD) (by subst e_m13; subst e_m12; subst e_m11; subst e_m10; subst e_m9; exact ms_up c3 hm) E
set_option maxRecDepth 100000 in
set_option maxHeartbeats 4000000 in
theorem c_X10_drift {G : Geo} {l : Launch} (hG : GOK G) {h : Hp} {κ : Nat → Int32} {σ : Nat → Int32} (wh : Int32) (hM : MT G) (hr_36 : h 36 = κ) (hr_37 : h 37 = σ) (hl : LGI σ) : CM G l yX10_drift cX10_drift 18 (some .int) 1 22 [.ref (gA G 36 0), .int wh] h (va_up h 36 ((S_X10_drift κ σ wh).2)) (some (.int ((S_X10_drift κ σ wh).1))) := by
  obtain ⟨Z, hZ⟩ : ∃ Z, S_X10_drift κ σ wh = Z := ⟨_, rfl⟩
  rw [hZ]
  refine q_enter hG mf_X10_drift (Nat.le_of_ble_eq_true rfl) ?_
  intro p e s m below meth c X hret
  have hT_36 : gT G 36 = 9 := hM 36 (by decide) (by decide)
  have hT_37 : gT G 37 = 10 := hM 37 (by decide) (by decide)
  refine q_lv (lv2 := [(0, .ref (gA G 36 0)), (1, .int wh)]) rfl ?_
  refine q_aload_n X 0 dX10_drift_0 rfl ?_
  refine q_iconst (v := 0) X dX10_drift_1 (by decide) ?_
  obtain ⟨r1, e_r1⟩ : ∃ z : Nat → Int32, z = va_up κ 0 0 := ⟨_, rfl⟩
  refine q_put (fk := 0) (h2 := va_up h 36 r1) X cf_X10 (ac_9_0 hT_36) (by decide) fl_X10_25 rfl rfl (by rw [hT_36]; rfl) rfl rfl rfl dX10_drift_2 (hr_36) (by rw [e_r1]) ?_
  refine q_iload_n X 1 dX10_drift_5 rfl ?_
  refine q_iconst (v := 1) X dX10_drift_6 (by decide) ?_
  refine q_iconst (v := 5) X dX10_drift_7 (by decide) ?_
  refine q_callS (h1 := _) (rest := []) (As := [.int wh, .int 1, .int 5]) X (c_X10_in (l := l) hG   wh 1 5 ) mf_X10_in ms_X10_in lk_X10_39 rfl ⟨by decide, by decide⟩ ⟨Nat.le_refl _, Nat.le_refl _⟩ rfl (Nat.le_of_ble_eq_true rfl) dX10_drift_8 (st2 := [.int (S_X10_in wh 1 5)]) rfl ?_
  refine q_if_ne (tgt := 17) X dX10_drift_11 (by decide) (fun c2 => ?_) (fun c2 => ?_)
  · skip
    refine q_lconst (v := 0) X dX10_drift_17 (by decide) ?_
    refine q_lstore_n (lv' := [(2, .long (0 : Int64)), (0, .ref (gA G 36 0)), (1, .int wh)]) X dX10_drift_18 (by decide) rfl ?_
    refine q_lconst (v := 0) X dX10_drift_19 (by decide) ?_
    refine q_lstore (lv' := [(4, .long (0 : Int64)), (2, .long (0 : Int64)), (0, .ref (gA G 36 0)), (1, .int wh)]) X dX10_drift_20 (by decide) rfl ?_
    refine q_lconst (v := 0) X dX10_drift_22 (by decide) ?_
    refine q_lstore (lv' := [(6, .long (0 : Int64)), (4, .long (0 : Int64)), (2, .long (0 : Int64)), (0, .ref (gA G 36 0)), (1, .int wh)]) X dX10_drift_23 (by decide) rfl ?_
    refine q_lconst (v := 0) X dX10_drift_25 (by decide) ?_
    refine q_lstore (lv' := [(8, .long (0 : Int64)), (6, .long (0 : Int64)), (4, .long (0 : Int64)), (2, .long (0 : Int64)), (0, .ref (gA G 36 0)), (1, .int wh)]) X dX10_drift_26 (by decide) rfl ?_
    refine q_lconst (v := 0) X dX10_drift_28 (by decide) ?_
    refine q_lstore (lv' := [(10, .long (0 : Int64)), (8, .long (0 : Int64)), (6, .long (0 : Int64)), (4, .long (0 : Int64)), (2, .long (0 : Int64)), (0, .ref (gA G 36 0)), (1, .int wh)]) X dX10_drift_29 (by decide) rfl ?_
    refine q_iconst (v := 0) X dX10_drift_31 (by decide) ?_
    refine q_istore (lv' := [(12, .int 0), (10, .long (0 : Int64)), (8, .long (0 : Int64)), (6, .long (0 : Int64)), (4, .long (0 : Int64)), (2, .long (0 : Int64)), (0, .ref (gA G 36 0)), (1, .int wh)]) X dX10_drift_32 (by decide) rfl ?_
    refine q_sub (lv2 := [(0, .ref (gA G 36 0)), (1, .int wh), (2, .long (0 : Int64)), (4, .long (0 : Int64)), (6, .long (0 : Int64)), (8, .long (0 : Int64)), (10, .long (0 : Int64)), (12, .int 0)]) [6, 7, 5, 4, 3, 2, 1, 0] rfl ?_
    have E : L_X10_drift_34 (((σ 63).toInt - (0 : Int32).toInt).toNat + 1) κ σ wh (0 : Int64) (0 : Int64) (0 : Int64) (0 : Int64) (0 : Int64) 0 r1 = Z := Eq.trans (Eq.symm (by subst e_r1; exact (if_neg c2).trans rfl)) hZ
    exact w_X10_drift_34 X hret hM hr_36 hr_37 hl Z (((σ 63).toInt - (0 : Int32).toInt).toNat + 1) (0 : Int64) (0 : Int64) (0 : Int64) (0 : Int64) (0 : Int64) 0 r1 (by subst e_r1; decide) (by subst e_r1; decide) (by subst e_r1; exact c2) (by subst e_r1; exact DI_0 _) (by subst e_r1; exact Nat.lt_succ_self _) E
  · skip
    refine q_ldc X kc_X10_47 dX10_drift_14 ?_
    have E : Z = ((-100001), r1) := by subst e_r1; exact hZ.symm.trans ((if_pos c2).trans rfl)
    exact q_iret X hret dX10_drift_16 (by rw [E]) (by rw [E])
