/-! the law's own methods -/
section QI
variable {G : Geo} {A : Nat → Prop} {p : Program} {l : Launch} {e : Env} {R : Room} {s : State} {m : MethodId} {args : Array Value} {below : List Frame} {meth : Method} {c : Code} {cells slots : Nat} {Q : State → Prop} {nL : Nat}
variable {own : String} {cc : ByteArray} {h : Hp} {pc : Nat} {lv : List (Nat × Value)} {st : List Value}
theorem q_ishr (X : CX G A p s m meth c own cc nL) {x y : Int32} (hd : decode cc pc = .ok (.ishr, 1)) (k : VV G A p l e R s m args below meth c cells slots Q nL h (pc + 1) lv (.int (x >>> (y &&& 31)) :: st)) : VV G A p l e R s m args below meth c cells slots Q nL h (pc) lv (.int y :: .int x :: st) := fun H locs ls hP hS hl => lv_ishr X.1 X.2.1 hd (k H locs ls hP hS hl)
theorem q_sld (X : CX G A p s m meth c own cc nL) {b L : Nat} {xs : Nat → Int32} (hX : va_X b L xs s s.heap) (hbl : b < s.heap.size) (hbA : ¬ A b) {i : Int32} (hin : vp_in i L) (hd : decode cc pc = .ok (.iaload, 1)) (k : VV G A p l e R s m args below meth c cells slots Q nL h (pc + 1) lv (.int (xs i.toNatClampNeg) :: st)) : VV G A p l e R s m args below meth c cells slots Q nL h pc lv (.int i :: .ref b :: st) := fun H locs ls hP hS hl => va_sld X.1 X.2.1 hX hbl hbA hS hin hd (k H locs ls hP hS hl)
theorem q_slen (X : CX G A p s m meth c own cc nL) {b L : Nat} {xs : Nat → Int32} (hX : va_X b L xs s s.heap) (hbl : b < s.heap.size) (hbA : ¬ A b) (hd : decode cc pc = .ok (.arraylength, 1)) (k : VV G A p l e R s m args below meth c cells slots Q nL h (pc + 1) lv (.int (Int32.ofNat L) :: st)) : VV G A p l e R s m args below meth c cells slots Q nL h pc lv (.ref b :: st) := fun H locs ls hP hS hl => va_slen X.1 X.2.1 hX hbl hbA hS hd (k H locs ls hP hS hl)
end QI
/-- what a call of cell() needs: the script besides the arena -/
def PS (G : Geo) (h : Hp) (b L : Nat) (xs : Nat → Int32) : State → Prop := fun U => PC G h U ∧ va_X b L xs U U.heap ∧ b < U.heap.size ∧ ¬ AA G b
def S_L_cell (L : Nat) (xs : Nat → Int32) (k : Int32) : Int32 := if Int32.ofNat L ≤ k then 7919 * (k + 3) * (k + 11) else xs k.toNatClampNeg
theorem PS.blind {G : Geo} {h : Hp} {b L : Nat} {xs : Nat → Int32} {av : List Value} : FrameBlind (va_Pc av (PS G h b L xs)) := fun a U g mk q => ⟨q.1, ⟨q.2.1.1.calling g mk a, q.2.1.2⟩, va_X.moved (u := U) (U := U.calling g mk a) (Vm.Alike.refl U.vm) q.2.2.1, q.2.2.2.1, q.2.2.2.2⟩
set_option maxRecDepth 100000 in
set_option maxHeartbeats 4000000 in
theorem c_L_cell {G : Geo} {l : Launch} (hG : GOK G) {h : Hp} {b L : Nat} {xs : Nat → Int32} (hL : L < 2 ^ 31) (k : Int32) (hk : ¬ k < 0) : Met l yL_cell [.code yL_cell cL_cell 2 (some .int)] { frames := 0, cells := 0, slots := 0, locals := 0 } (va_Pc [.ref b, .int k] (PS G h b L xs)) (QC G h (some (.int (S_L_cell L xs k)))) 0 0 (AA G) := by
  refine Met.ofWF (cc := cL_cell) (maxL := 2) (ret := some .int) mf_L_cell.2.2.2.2 rfl ?_
  intro p e s m args below meth c s₁ B hml hv
  obtain ⟨rfl, ⟨hK, hP⟩, hX, hbl, hbA⟩ := hv
  have hown : s.vm.findClass yL_cell.cls = some m.cls := findClass_of_methodNamed B.named
  have X : CX G (AA G) p s m meth c yL_cell.cls cL_cell 2 := ⟨B.exec, B.bytes, hml, hown, hK, hG, fun g j h => ⟨g, j, h, rfl⟩, B.notSynchronized⟩
  have hret : meth.sig.returnType = some .int := B.returns
  have hl := lv_entry [.ref b, .int k] (n := 2) (Nat.le_of_ble_eq_true rfl)
  rw [lg_entry_eq]
  suffices V : VV G (AA G) p l e { frames := 0, cells := 0, slots := 0, locals := 0 } s m [Value.ref b, Value.int k].toArray below meth c 0 0 (MQ below (QC G h (some (.int (S_L_cell L xs k)))) [Value.ref b, Value.int k].toArray s 0 0 (AA G)) 2 h 0 (lv_args 0 [.ref b, .int k]) [] by
    exact V s.heap [] _ hP va_S.rf hl
  refine q_lv (lv2 := [(0, .ref b), (1, .int k)]) rfl ?_
  refine q_iload_n X 1 dL_cell_0 rfl ?_
  refine q_aload_n X 0 dL_cell_1 rfl ?_
  refine q_slen X hX hbl hbA dL_cell_2 ?_
  refine q_icmp_ge (tgt := 12) X dL_cell_3 (by decide) (fun c1 => ?_) (fun c1 => ?_)
  · refine q_sipush (v := 7919) X dL_cell_12 (by decide) ?_
    refine q_iload_n X 1 dL_cell_15 rfl ?_
    refine q_iconst (v := 3) X dL_cell_16 (by decide) ?_
    refine q_iadd X dL_cell_17 ?_
    refine q_imul X dL_cell_18 ?_
    refine q_iload_n X 1 dL_cell_19 rfl ?_
    refine q_bipush (v := 11) X dL_cell_20 (by decide) ?_
    refine q_iadd X dL_cell_22 ?_
    refine q_imul X dL_cell_23 ?_
    exact q_iret X hret dL_cell_24 (by rw [S_L_cell, if_pos c1]) rfl
  · refine q_aload_n X 0 dL_cell_6 rfl ?_
    refine q_iload_n X 1 dL_cell_7 rfl ?_
    refine q_sld X hX hbl hbA (vin_n hL hk c1) dL_cell_8 ?_
    refine q_goto (tgt := 24) X dL_cell_9 (by decide) ?_
    exact q_iret X hret dL_cell_24 (by rw [S_L_cell, if_neg c1]) rfl
theorem q_callC {G : Geo} {A : Nat → Prop} {p : Program} {l : Launch} {e : Env} {R : Room} {s : State} {m : MethodId} {args : Array Value} {below : List Frame} {meth : Method} {c : Code} {cells slots : Nat} {Q : State → Prop} {nL : Nat} {own : String} {cc : ByteArray} {h : Hp} {pc : Nat} {lv : List (Nat × Value)} {st : List Value} (X : CX G A p s m meth c own cc nL) {b L : Nat} {xs : Nat → Int32} (hL : L < 2 ^ 31) (hX : va_X b L xs s s.heap) (hbl : b < s.heap.size) (hbA : ¬ A b) {k : Int32} (hk : ¬ k < 0) {idx : Nat} {rest : List Value} (hw : Cond.methodLink own idx yL_cell ∈ lw_tbl) (hR : 0 + 1 ≤ R.frames ∧ 8 + (2 + 11) + 0 ≤ R.locals) (hf : cells + 0 ≤ R.cells ∧ slots + 0 ≤ R.slots) (hst : st = .int k :: .ref b :: rest) (hro : (rest.map fun v => v.category).sum ≤ 8) (hd : decode cc pc = .ok (.invokestatic idx, 3)) (kk : VV G A p l e R s m args below meth c cells slots Q nL h (pc + 3) lv (.int (S_L_cell L xs k) :: rest)) : VV G A p l e R s m args below meth c cells slots Q nL h pc lv st := fun H locs ls hP hS hl => by
  have U := fun (w : Cond) (a : w ∈ lw_tbl) (b : gw w = true) => X.2.2.2.2.1.use (args := args) a b
  refine q_after X (va_runS (As := [.ref b, .int k]) (rest := rest) (Ts := []) (nL := nL) ⟨X.1, X.2.1, X.2.2.1, X.2.2.2.1, fun w h => by cases h⟩ (c_L_cell X.2.2.2.2.2.1 hL k hk) ⟨q_back X mf_L_cell hw hR, U _ ms_L_cell rfl⟩ ⟨PS.blind, fun U hU hW => ⟨rfl, ⟨X.2.2.2.2.1.warm hW, by rw [hU]; exact hP⟩, ?_, ?_, ?_⟩⟩ rfl rfl hl.1 hst (lv_room hro) hd hf) hS hl kk
  · rw [hU]
    exact va_X.moved hW.alike (hX.kept (hS.2.1 b hbl hbA))
  · rw [hU]
    exact Nat.lt_of_lt_of_le hbl hS.1
  · rintro ⟨g, j, h1, h2⟩
    exact hbA (by rw [← h2]; exact X.2.2.2.2.2.2.1 g j h1)
def S_L_low (a : Int32) (b : Int32) : Int32 := (a &&& 2147483647) - (a &&& 2147483647) / b * b
set_option maxRecDepth 100000 in
set_option maxHeartbeats 4000000 in
theorem c_L_low {G : Geo} {l : Launch} (hG : GOK G) {h : Hp} (a : Int32) (b : Int32) (hb : ¬ b = 0) : CM G l yL_low cL_low 2 (some .int) 0 0 [.int a, .int b] h h (some (.int (S_L_low a b))) := by
  obtain ⟨Z, hZ⟩ : ∃ Z, S_L_low a b = Z := ⟨_, rfl⟩
  rw [hZ]
  refine q_enter hG mf_L_low (Nat.le_of_ble_eq_true rfl) ?_
  intro p e s m below meth c X hret
  refine q_lv (lv2 := [(0, .int a), (1, .int b)]) rfl ?_
  refine q_iload_n X 0 dL_low_0 rfl ?_
  refine q_ldc X kc_L_7 dL_low_1 ?_
  refine q_iand X dL_low_3 ?_
  refine q_iload_n X 1 dL_low_4 rfl ?_
  refine q_irem X dL_low_5 hb ?_
  have E : Z = (a &&& 2147483647) - (a &&& 2147483647) / b * b := by exact hZ.symm.trans (rfl)
  exact q_iret X hret dL_low_6 (by rw [E]) rfl
def L_L_digest_60 (fu : Nat) (h : Hp) (dg : Int64) (k : Int32) : Int64 := match fu with
  | 0 => 0
  | fu + 1 => if 9 ≤ k then (dg) else (L_L_digest_60 fu h (((31 : Int64) * (((31 : Int64) * (((31 : Int64) * (((31 : Int64) * dg) + (Int32.toInt64 (S_X9_logged h k 0)))) + (Int32.toInt64 (S_X9_logged h k 4)))) + (Int32.toInt64 (S_X9_target h (40 * k))))) + (Int32.toInt64 (S_X9_rate h ((300 * k) + 100)))) (k + 1))
def L_L_digest_33 (fu : Nat) (h : Hp) (dg : Int64) (k : Int32) : Int64 := match fu with
  | 0 => 0
  | fu + 1 => if 10 ≤ k then (L_L_digest_60 10 h dg 0) else (L_L_digest_33 fu h (((31 : Int64) * dg) + (Int32.toInt64 (S_X9_batch h k))) (k + 1))
def L_L_digest_6 (fu : Nat) (h : Hp) (dg : Int64) (k : Int32) : Int64 := match fu with
  | 0 => 0
  | fu + 1 => if 11 ≤ k then (L_L_digest_33 11 h dg 0) else (L_L_digest_6 fu h (((31 : Int64) * dg) + (Int32.toInt64 (S_X9_count h k))) (k + 1))
def S_L_digest (h : Hp) : Int64 := L_L_digest_6 12 h (7 : Int64) 0
set_option maxRecDepth 100000 in
set_option maxHeartbeats 4000000 in
theorem w_L_digest_60 {G : Geo} {p : Program} {l : Launch} {e : Env} {s : State} {m : MethodId} {args : Array Value} {below : List Frame} {meth : Method} {c : Code} {h : Hp}  (X : CX G (AA G) p s m meth c RL cL_digest 4) (hret : meth.sig.returnType = (some .long)) (hK : KT G) (Z : Int64) : ∀ (fu : Nat) (dg : Int64) (k : Int32), ((9 : Int32).toInt - k.toInt).toNat < fu → L_L_digest_60 fu h dg k = Z → VV G (AA G) p l e { frames := 4, cells := 0, slots := 0, locals := 94 } s m args below meth c 0 0 (MQ below (QC G h (some (.long Z))) args s 0 0 (AA G)) 4 h 60 [(0, .ref (gA G 0 0)), (1, .long dg), (3, .int k)] [] := by
  intro fu
  induction fu with
  | zero =>
    intro dg k  hm
    exact absurd hm (Nat.not_lt_zero _)
  | succ fu ih =>
    intro dg k  hm hZ
    have hG := X.2.2.2.2.2.1
    have hT_0 : gT G 0 = 0 := hK 0 (by decide)
    have hT_1 : gT G 1 = 1 := hK 1 (by decide)
    have hT_2 : gT G 2 = 2 := hK 2 (by decide)
    have hT_3 : gT G 3 = 3 := hK 3 (by decide)
    have hT_4 : gT G 4 = 3 := hK 4 (by decide)
    have hT_5 : gT G 5 = 5 := hK 5 (by decide)
    have hT_6 : gT G 6 = 2 := hK 6 (by decide)
    have hT_7 : gT G 7 = 6 := hK 7 (by decide)
    have hT_8 : gT G 8 = 7 := hK 8 (by decide)
    have hT_9 : gT G 9 = 3 := hK 9 (by decide)
    have hT_10 : gT G 10 = 8 := hK 10 (by decide)
    refine q_iload_n X 2 dL_digest_60 rfl ?_
    refine q_bipush (v := 9) X dL_digest_61 (by decide) ?_
    refine q_icmp_ge (tgt := 136) X dL_digest_63 (by decide) (fun c3 => ?_) (fun c3 => ?_)
    · skip
      refine q_lload_n X 1 dL_digest_136 rfl ?_
      have E : Z = dg := by exact hZ.symm.trans ((if_pos c3).trans rfl)
      exact q_lret X hret dL_digest_137 (by rw [E]) rfl
    · skip
      refine q_ldc2 X kl_L_10 dL_digest_66 ?_
      refine q_lload_n X 1 dL_digest_69 rfl ?_
      refine q_lmul X dL_digest_70 ?_
      refine q_aload_n X 0 dL_digest_71 rfl ?_
      refine q_iload_n X 2 dL_digest_72 rfl ?_
      refine q_iconst (v := 0) X dL_digest_73 (by decide) ?_
      refine q_callV (h1 := _) (rest := [.long ((31 : Int64) * dg)]) (As := [.int k, .int 0]) X (c_X9_logged (l := l) hG   k 0 hK) mf_X9_logged mv_X9_logged cf_X9 rfl (ac_0_0 hT_0) lk_L_21 rfl ⟨by decide, by decide⟩ ⟨Nat.le_refl _, Nat.le_refl _⟩ rfl (Nat.le_of_ble_eq_true rfl) dL_digest_74 (st2 := [.int (S_X9_logged h k 0), .long ((31 : Int64) * dg)]) rfl ?_
      refine q_i2l X dL_digest_77 ?_
      refine q_ladd X dL_digest_78 ?_
      refine q_lstore_n (lv' := [(1, .long (((31 : Int64) * dg) + (Int32.toInt64 (S_X9_logged h k 0)))), (0, .ref (gA G 0 0)), (3, .int k)]) X dL_digest_79 (by decide) rfl ?_
      refine q_ldc2 X kl_L_10 dL_digest_80 ?_
      refine q_lload_n X 0 dL_digest_83 rfl ?_
      refine q_lmul X dL_digest_84 ?_
      refine q_aload_n X 1 dL_digest_85 rfl ?_
      refine q_iload_n X 2 dL_digest_86 rfl ?_
      refine q_iconst (v := 4) X dL_digest_87 (by decide) ?_
      refine q_callV (h1 := _) (rest := [.long ((31 : Int64) * (((31 : Int64) * dg) + (Int32.toInt64 (S_X9_logged h k 0))))]) (As := [.int k, .int 4]) X (c_X9_logged (l := l) hG   k 4 hK) mf_X9_logged mv_X9_logged cf_X9 rfl (ac_0_0 hT_0) lk_L_21 rfl ⟨by decide, by decide⟩ ⟨Nat.le_refl _, Nat.le_refl _⟩ rfl (Nat.le_of_ble_eq_true rfl) dL_digest_88 (st2 := [.int (S_X9_logged h k 4), .long ((31 : Int64) * (((31 : Int64) * dg) + (Int32.toInt64 (S_X9_logged h k 0))))]) rfl ?_
      refine q_i2l X dL_digest_91 ?_
      refine q_ladd X dL_digest_92 ?_
      refine q_lstore_n (lv' := [(1, .long (((31 : Int64) * (((31 : Int64) * dg) + (Int32.toInt64 (S_X9_logged h k 0)))) + (Int32.toInt64 (S_X9_logged h k 4)))), (0, .ref (gA G 0 0)), (3, .int k)]) X dL_digest_93 (by decide) rfl ?_
      refine q_ldc2 X kl_L_10 dL_digest_94 ?_
      refine q_lload_n X 0 dL_digest_97 rfl ?_
      refine q_lmul X dL_digest_98 ?_
      refine q_aload_n X 1 dL_digest_99 rfl ?_
      refine q_bipush (v := 40) X dL_digest_100 (by decide) ?_
      refine q_iload_n X 2 dL_digest_102 rfl ?_
      refine q_imul X dL_digest_103 ?_
      refine q_callV (h1 := _) (rest := [.long ((31 : Int64) * (((31 : Int64) * (((31 : Int64) * dg) + (Int32.toInt64 (S_X9_logged h k 0)))) + (Int32.toInt64 (S_X9_logged h k 4))))]) (As := [.int (40 * k)]) X (c_X9_target (l := l) hG   (40 * k) hK) mf_X9_target mv_X9_target cf_X9 rfl (ac_0_0 hT_0) lk_L_25 rfl ⟨by decide, by decide⟩ ⟨Nat.le_refl _, Nat.le_refl _⟩ rfl (Nat.le_of_ble_eq_true rfl) dL_digest_104 (st2 := [.int (S_X9_target h (40 * k)), .long ((31 : Int64) * (((31 : Int64) * (((31 : Int64) * dg) + (Int32.toInt64 (S_X9_logged h k 0)))) + (Int32.toInt64 (S_X9_logged h k 4))))]) rfl ?_
      refine q_i2l X dL_digest_107 ?_
      refine q_ladd X dL_digest_108 ?_
      refine q_lstore_n (lv' := [(1, .long (((31 : Int64) * (((31 : Int64) * (((31 : Int64) * dg) + (Int32.toInt64 (S_X9_logged h k 0)))) + (Int32.toInt64 (S_X9_logged h k 4)))) + (Int32.toInt64 (S_X9_target h (40 * k))))), (0, .ref (gA G 0 0)), (3, .int k)]) X dL_digest_109 (by decide) rfl ?_
      refine q_ldc2 X kl_L_10 dL_digest_110 ?_
      refine q_lload_n X 0 dL_digest_113 rfl ?_
      refine q_lmul X dL_digest_114 ?_
      refine q_aload_n X 1 dL_digest_115 rfl ?_
      refine q_sipush (v := 300) X dL_digest_116 (by decide) ?_
      refine q_iload_n X 2 dL_digest_119 rfl ?_
      refine q_imul X dL_digest_120 ?_
      refine q_bipush (v := 100) X dL_digest_121 (by decide) ?_
      refine q_iadd X dL_digest_123 ?_
      refine q_callV (h1 := _) (rest := [.long ((31 : Int64) * (((31 : Int64) * (((31 : Int64) * (((31 : Int64) * dg) + (Int32.toInt64 (S_X9_logged h k 0)))) + (Int32.toInt64 (S_X9_logged h k 4)))) + (Int32.toInt64 (S_X9_target h (40 * k)))))]) (As := [.int ((300 * k) + 100)]) X (c_X9_rate (l := l) hG   ((300 * k) + 100) hK) mf_X9_rate mv_X9_rate cf_X9 rfl (ac_0_0 hT_0) lk_L_28 rfl ⟨by decide, by decide⟩ ⟨Nat.le_refl _, Nat.le_refl _⟩ rfl (Nat.le_of_ble_eq_true rfl) dL_digest_124 (st2 := [.int (S_X9_rate h ((300 * k) + 100)), .long ((31 : Int64) * (((31 : Int64) * (((31 : Int64) * (((31 : Int64) * dg) + (Int32.toInt64 (S_X9_logged h k 0)))) + (Int32.toInt64 (S_X9_logged h k 4)))) + (Int32.toInt64 (S_X9_target h (40 * k)))))]) rfl ?_
      refine q_i2l X dL_digest_127 ?_
      refine q_ladd X dL_digest_128 ?_
      refine q_lstore_n (lv' := [(1, .long (((31 : Int64) * (((31 : Int64) * (((31 : Int64) * (((31 : Int64) * dg) + (Int32.toInt64 (S_X9_logged h k 0)))) + (Int32.toInt64 (S_X9_logged h k 4)))) + (Int32.toInt64 (S_X9_target h (40 * k))))) + (Int32.toInt64 (S_X9_rate h ((300 * k) + 100))))), (0, .ref (gA G 0 0)), (3, .int k)]) X dL_digest_129 (by decide) rfl ?_
      refine q_iinc (v := k + 1) (lv' := [(3, .int (k + 1)), (1, .long (((31 : Int64) * (((31 : Int64) * (((31 : Int64) * (((31 : Int64) * dg) + (Int32.toInt64 (S_X9_logged h k 0)))) + (Int32.toInt64 (S_X9_logged h k 4)))) + (Int32.toInt64 (S_X9_target h (40 * k))))) + (Int32.toInt64 (S_X9_rate h ((300 * k) + 100))))), (0, .ref (gA G 0 0))]) X 2 dL_digest_130 rfl rfl (by decide) rfl ?_
      refine q_goto (tgt := 60) X dL_digest_133 (by decide) ?_
      refine q_sub (lv2 := [(0, .ref (gA G 0 0)), (1, .long (((31 : Int64) * (((31 : Int64) * (((31 : Int64) * (((31 : Int64) * dg) + (Int32.toInt64 (S_X9_logged h k 0)))) + (Int32.toInt64 (S_X9_logged h k 4)))) + (Int32.toInt64 (S_X9_target h (40 * k))))) + (Int32.toInt64 (S_X9_rate h ((300 * k) + 100))))), (3, .int (k + 1))]) [2, 1, 0] rfl ?_
      have E : L_L_digest_60 fu h (((31 : Int64) * (((31 : Int64) * (((31 : Int64) * (((31 : Int64) * dg) + (Int32.toInt64 (S_X9_logged h k 0)))) + (Int32.toInt64 (S_X9_logged h k 4)))) + (Int32.toInt64 (S_X9_target h (40 * k))))) + (Int32.toInt64 (S_X9_rate h ((300 * k) + 100)))) (k + 1) = Z := Eq.trans (Eq.symm (by exact (if_neg c3).trans rfl)) hZ
      exact ih (((31 : Int64) * (((31 : Int64) * (((31 : Int64) * (((31 : Int64) * dg) + (Int32.toInt64 (S_X9_logged h k 0)))) + (Int32.toInt64 (S_X9_logged h k 4)))) + (Int32.toInt64 (S_X9_target h (40 * k))))) + (Int32.toInt64 (S_X9_rate h ((300 * k) + 100)))) (k + 1)  (by exact ms_up c3 hm) E
set_option maxRecDepth 100000 in
set_option maxHeartbeats 4000000 in
theorem w_L_digest_33 {G : Geo} {p : Program} {l : Launch} {e : Env} {s : State} {m : MethodId} {args : Array Value} {below : List Frame} {meth : Method} {c : Code} {h : Hp}  (X : CX G (AA G) p s m meth c RL cL_digest 4) (hret : meth.sig.returnType = (some .long)) (hK : KT G) (Z : Int64) : ∀ (fu : Nat) (dg : Int64) (k : Int32), ((10 : Int32).toInt - k.toInt).toNat < fu → L_L_digest_33 fu h dg k = Z → VV G (AA G) p l e { frames := 4, cells := 0, slots := 0, locals := 94 } s m args below meth c 0 0 (MQ below (QC G h (some (.long Z))) args s 0 0 (AA G)) 4 h 33 [(0, .ref (gA G 0 0)), (1, .long dg), (3, .int k)] [] := by
  intro fu
  induction fu with
  | zero =>
    intro dg k  hm
    exact absurd hm (Nat.not_lt_zero _)
  | succ fu ih =>
    intro dg k  hm hZ
    have hG := X.2.2.2.2.2.1
    have hT_0 : gT G 0 = 0 := hK 0 (by decide)
    have hT_1 : gT G 1 = 1 := hK 1 (by decide)
    have hT_2 : gT G 2 = 2 := hK 2 (by decide)
    have hT_3 : gT G 3 = 3 := hK 3 (by decide)
    have hT_4 : gT G 4 = 3 := hK 4 (by decide)
    have hT_5 : gT G 5 = 5 := hK 5 (by decide)
    have hT_6 : gT G 6 = 2 := hK 6 (by decide)
    have hT_7 : gT G 7 = 6 := hK 7 (by decide)
    have hT_8 : gT G 8 = 7 := hK 8 (by decide)
    have hT_9 : gT G 9 = 3 := hK 9 (by decide)
    have hT_10 : gT G 10 = 8 := hK 10 (by decide)
    refine q_iload_n X 2 dL_digest_33 rfl ?_
    refine q_bipush (v := 10) X dL_digest_34 (by decide) ?_
    refine q_icmp_ge (tgt := 58) X dL_digest_36 (by decide) (fun c2 => ?_) (fun c2 => ?_)
    · skip
      refine q_iconst (v := 0) X dL_digest_58 (by decide) ?_
      refine q_istore_n (lv' := [(3, .int 0), (0, .ref (gA G 0 0)), (1, .long dg)]) X dL_digest_59 (by decide) rfl ?_
      refine q_sub (lv2 := [(0, .ref (gA G 0 0)), (1, .long dg), (3, .int 0)]) [1, 2, 0] rfl ?_
      have E : L_L_digest_60 10 h dg 0 = Z := Eq.trans (Eq.symm (by exact (if_pos c2).trans rfl)) hZ
      exact w_L_digest_60 X hret hK Z 10 dg 0  (by decide) E
    · skip
      refine q_ldc2 X kl_L_10 dL_digest_39 ?_
      refine q_lload_n X 1 dL_digest_42 rfl ?_
      refine q_lmul X dL_digest_43 ?_
      refine q_aload_n X 0 dL_digest_44 rfl ?_
      refine q_iload_n X 2 dL_digest_45 rfl ?_
      refine q_callV (h1 := _) (rest := [.long ((31 : Int64) * dg)]) (As := [.int k]) X (c_X9_batch (l := l) hG   k hK) mf_X9_batch mv_X9_batch cf_X9 rfl (ac_0_0 hT_0) lk_L_18 rfl ⟨by decide, by decide⟩ ⟨Nat.le_refl _, Nat.le_refl _⟩ rfl (Nat.le_of_ble_eq_true rfl) dL_digest_46 (st2 := [.int (S_X9_batch h k), .long ((31 : Int64) * dg)]) rfl ?_
      refine q_i2l X dL_digest_49 ?_
      refine q_ladd X dL_digest_50 ?_
      refine q_lstore_n (lv' := [(1, .long (((31 : Int64) * dg) + (Int32.toInt64 (S_X9_batch h k)))), (0, .ref (gA G 0 0)), (3, .int k)]) X dL_digest_51 (by decide) rfl ?_
      refine q_iinc (v := k + 1) (lv' := [(3, .int (k + 1)), (1, .long (((31 : Int64) * dg) + (Int32.toInt64 (S_X9_batch h k)))), (0, .ref (gA G 0 0))]) X 2 dL_digest_52 rfl rfl (by decide) rfl ?_
      refine q_goto (tgt := 33) X dL_digest_55 (by decide) ?_
      refine q_sub (lv2 := [(0, .ref (gA G 0 0)), (1, .long (((31 : Int64) * dg) + (Int32.toInt64 (S_X9_batch h k)))), (3, .int (k + 1))]) [2, 1, 0] rfl ?_
      have E : L_L_digest_33 fu h (((31 : Int64) * dg) + (Int32.toInt64 (S_X9_batch h k))) (k + 1) = Z := Eq.trans (Eq.symm (by exact (if_neg c2).trans rfl)) hZ
      exact ih (((31 : Int64) * dg) + (Int32.toInt64 (S_X9_batch h k))) (k + 1)  (by exact ms_up c2 hm) E
set_option maxRecDepth 100000 in
set_option maxHeartbeats 4000000 in
theorem w_L_digest_6 {G : Geo} {p : Program} {l : Launch} {e : Env} {s : State} {m : MethodId} {args : Array Value} {below : List Frame} {meth : Method} {c : Code} {h : Hp}  (X : CX G (AA G) p s m meth c RL cL_digest 4) (hret : meth.sig.returnType = (some .long)) (hK : KT G) (Z : Int64) : ∀ (fu : Nat) (dg : Int64) (k : Int32), ((11 : Int32).toInt - k.toInt).toNat < fu → L_L_digest_6 fu h dg k = Z → VV G (AA G) p l e { frames := 4, cells := 0, slots := 0, locals := 94 } s m args below meth c 0 0 (MQ below (QC G h (some (.long Z))) args s 0 0 (AA G)) 4 h 6 [(0, .ref (gA G 0 0)), (1, .long dg), (3, .int k)] [] := by
  intro fu
  induction fu with
  | zero =>
    intro dg k  hm
    exact absurd hm (Nat.not_lt_zero _)
  | succ fu ih =>
    intro dg k  hm hZ
    have hG := X.2.2.2.2.2.1
    have hT_0 : gT G 0 = 0 := hK 0 (by decide)
    have hT_1 : gT G 1 = 1 := hK 1 (by decide)
    have hT_2 : gT G 2 = 2 := hK 2 (by decide)
    have hT_3 : gT G 3 = 3 := hK 3 (by decide)
    have hT_4 : gT G 4 = 3 := hK 4 (by decide)
    have hT_5 : gT G 5 = 5 := hK 5 (by decide)
    have hT_6 : gT G 6 = 2 := hK 6 (by decide)
    have hT_7 : gT G 7 = 6 := hK 7 (by decide)
    have hT_8 : gT G 8 = 7 := hK 8 (by decide)
    have hT_9 : gT G 9 = 3 := hK 9 (by decide)
    have hT_10 : gT G 10 = 8 := hK 10 (by decide)
    refine q_iload_n X 2 dL_digest_6 rfl ?_
    refine q_bipush (v := 11) X dL_digest_7 (by decide) ?_
    refine q_icmp_ge (tgt := 31) X dL_digest_9 (by decide) (fun c1 => ?_) (fun c1 => ?_)
    · skip
      refine q_iconst (v := 0) X dL_digest_31 (by decide) ?_
      refine q_istore_n (lv' := [(3, .int 0), (0, .ref (gA G 0 0)), (1, .long dg)]) X dL_digest_32 (by decide) rfl ?_
      refine q_sub (lv2 := [(0, .ref (gA G 0 0)), (1, .long dg), (3, .int 0)]) [1, 2, 0] rfl ?_
      have E : L_L_digest_33 11 h dg 0 = Z := Eq.trans (Eq.symm (by exact (if_pos c1).trans rfl)) hZ
      exact w_L_digest_33 X hret hK Z 11 dg 0  (by decide) E
    · skip
      refine q_ldc2 X kl_L_10 dL_digest_12 ?_
      refine q_lload_n X 1 dL_digest_15 rfl ?_
      refine q_lmul X dL_digest_16 ?_
      refine q_aload_n X 0 dL_digest_17 rfl ?_
      refine q_iload_n X 2 dL_digest_18 rfl ?_
      refine q_callV (h1 := _) (rest := [.long ((31 : Int64) * dg)]) (As := [.int k]) X (c_X9_count (l := l) hG   k hK) mf_X9_count mv_X9_count cf_X9 rfl (ac_0_0 hT_0) lk_L_12 rfl ⟨by decide, by decide⟩ ⟨Nat.le_refl _, Nat.le_refl _⟩ rfl (Nat.le_of_ble_eq_true rfl) dL_digest_19 (st2 := [.int (S_X9_count h k), .long ((31 : Int64) * dg)]) rfl ?_
      refine q_i2l X dL_digest_22 ?_
      refine q_ladd X dL_digest_23 ?_
      refine q_lstore_n (lv' := [(1, .long (((31 : Int64) * dg) + (Int32.toInt64 (S_X9_count h k)))), (0, .ref (gA G 0 0)), (3, .int k)]) X dL_digest_24 (by decide) rfl ?_
      refine q_iinc (v := k + 1) (lv' := [(3, .int (k + 1)), (1, .long (((31 : Int64) * dg) + (Int32.toInt64 (S_X9_count h k)))), (0, .ref (gA G 0 0))]) X 2 dL_digest_25 rfl rfl (by decide) rfl ?_
      refine q_goto (tgt := 6) X dL_digest_28 (by decide) ?_
      refine q_sub (lv2 := [(0, .ref (gA G 0 0)), (1, .long (((31 : Int64) * dg) + (Int32.toInt64 (S_X9_count h k)))), (3, .int (k + 1))]) [2, 1, 0] rfl ?_
      have E : L_L_digest_6 fu h (((31 : Int64) * dg) + (Int32.toInt64 (S_X9_count h k))) (k + 1) = Z := Eq.trans (Eq.symm (by exact (if_neg c1).trans rfl)) hZ
      exact ih (((31 : Int64) * dg) + (Int32.toInt64 (S_X9_count h k))) (k + 1)  (by exact ms_up c1 hm) E
set_option maxRecDepth 100000 in
set_option maxHeartbeats 4000000 in
theorem c_L_digest {G : Geo} {l : Launch} (hG : GOK G) {h : Hp}  (hK : KT G) : CM G l yL_digest cL_digest 4 (some .long) 4 94 [.ref (gA G 0 0)] h h (some (.long (S_L_digest h))) := by
  obtain ⟨Z, hZ⟩ : ∃ Z, S_L_digest h = Z := ⟨_, rfl⟩
  rw [hZ]
  refine q_enter hG mf_L_digest (Nat.le_of_ble_eq_true rfl) ?_
  intro p e s m below meth c X hret
  have hT_0 : gT G 0 = 0 := hK 0 (by decide)
  have hT_1 : gT G 1 = 1 := hK 1 (by decide)
  have hT_2 : gT G 2 = 2 := hK 2 (by decide)
  have hT_3 : gT G 3 = 3 := hK 3 (by decide)
  have hT_4 : gT G 4 = 3 := hK 4 (by decide)
  have hT_5 : gT G 5 = 5 := hK 5 (by decide)
  have hT_6 : gT G 6 = 2 := hK 6 (by decide)
  have hT_7 : gT G 7 = 6 := hK 7 (by decide)
  have hT_8 : gT G 8 = 7 := hK 8 (by decide)
  have hT_9 : gT G 9 = 3 := hK 9 (by decide)
  have hT_10 : gT G 10 = 8 := hK 10 (by decide)
  refine q_lv (lv2 := [(0, .ref (gA G 0 0))]) rfl ?_
  refine q_ldc2 X kl_L_8 dL_digest_0 ?_
  refine q_lstore_n (lv' := [(1, .long (7 : Int64)), (0, .ref (gA G 0 0))]) X dL_digest_3 (by decide) rfl ?_
  refine q_iconst (v := 0) X dL_digest_4 (by decide) ?_
  refine q_istore_n (lv' := [(3, .int 0), (1, .long (7 : Int64)), (0, .ref (gA G 0 0))]) X dL_digest_5 (by decide) rfl ?_
  refine q_sub (lv2 := [(0, .ref (gA G 0 0)), (1, .long (7 : Int64)), (3, .int 0)]) [2, 1, 0] rfl ?_
  have E : L_L_digest_6 12 h (7 : Int64) 0 = Z := Eq.trans (Eq.symm (by exact rfl)) hZ
  exact w_L_digest_6 X hret hK Z 12 (7 : Int64) 0  (by decide) E
def L_L_isRight_219 (fu : Nat) (h : Hp) (k : Int32) : Int32 := match fu with
  | 0 => 0
  | fu + 1 => if (S_X9_count h 10) ≤ k then (1) else (if (S_X9_logged h k 0) = ((S_X9_logged h 0 0) - k) then (L_L_isRight_219 fu h (k + 1)) else (0))
def S_L_isRight (h : Hp) : Int32 := if (S_X9_count h 5) < 0 then (0) else (if 100 < (S_X9_count h 5) then (0) else (if (S_X9_count h 6) < 1 then (0) else (if 60 < (S_X9_count h 6) then (0) else (if 8 < (S_X9_count h 10) then (0) else (if 20000 < (S_X9_count h 7) then (0) else (if (-20000) ≤ (S_X9_count h 7) then (if (S_X9_count h 1) = 0 then (L_L_isRight_219 (((S_X9_count h 10).toInt - (1 : Int32).toInt).toNat + 1) h 1) else (if (S_X9_batch h 4) < 0 then (0) else (if 1000 < (S_X9_batch h 4) then (0) else (if (S_X9_batch h 4) < (S_X9_batch h 6) then (0) else (if (S_X9_batch h 6) < (S_X9_batch h 5) then (0) else (if (S_X9_batch h 3) < 0 then (0) else (if (S_X9_batch h 0) ≤ (S_X9_batch h 9) then (if (S_X9_batch h 7) = 0 then (0) else (if (S_X9_batch h 8) < 0 then (L_L_isRight_219 (((S_X9_count h 10).toInt - (1 : Int32).toInt).toNat + 1) h 1) else (if (S_X9_batch h 8) ≤ (S_X9_batch h 7) then (0) else (if 0 ≤ (S_X9_batch h 7) then (L_L_isRight_219 (((S_X9_count h 10).toInt - (1 : Int32).toInt).toNat + 1) h 1) else (0))))) else (if (S_X9_count h 1) = 1 then (0) else (if (S_X9_batch h 7) = 0 then (0) else (if (S_X9_batch h 8) < 0 then (L_L_isRight_219 (((S_X9_count h 10).toInt - (1 : Int32).toInt).toNat + 1) h 1) else (if (S_X9_batch h 8) ≤ (S_X9_batch h 7) then (0) else (if 0 ≤ (S_X9_batch h 7) then (L_L_isRight_219 (((S_X9_count h 10).toInt - (1 : Int32).toInt).toNat + 1) h 1) else (0))))))))))))) else (0)))))))
set_option maxRecDepth 100000 in
set_option maxHeartbeats 4000000 in
theorem w_L_isRight_219 {G : Geo} {p : Program} {l : Launch} {e : Env} {s : State} {m : MethodId} {args : Array Value} {below : List Frame} {meth : Method} {c : Code} {h : Hp}  (X : CX G (AA G) p s m meth c RL cL_isRight 2) (hret : meth.sig.returnType = (some .boolean)) (hK : KT G) (Z : Int32) : ∀ (fu : Nat) (k : Int32), ((S_X9_count h 10).toInt - k.toInt).toNat < fu → L_L_isRight_219 fu h k = Z → VV G (AA G) p l e { frames := 4, cells := 0, slots := 0, locals := 85 } s m args below meth c 0 0 (MQ below (QC G h (some (.int Z))) args s 0 0 (AA G)) 2 h 219 [(0, .ref (gA G 0 0)), (1, .int k)] [] := by
  intro fu
  induction fu with
  | zero =>
    intro k  hm
    exact absurd hm (Nat.not_lt_zero _)
  | succ fu ih =>
    intro k  hm hZ
    have hG := X.2.2.2.2.2.1
    have hT_0 : gT G 0 = 0 := hK 0 (by decide)
    have hT_1 : gT G 1 = 1 := hK 1 (by decide)
    have hT_2 : gT G 2 = 2 := hK 2 (by decide)
    have hT_3 : gT G 3 = 3 := hK 3 (by decide)
    have hT_4 : gT G 4 = 3 := hK 4 (by decide)
    have hT_5 : gT G 5 = 5 := hK 5 (by decide)
    have hT_6 : gT G 6 = 2 := hK 6 (by decide)
    have hT_7 : gT G 7 = 6 := hK 7 (by decide)
    have hT_8 : gT G 8 = 7 := hK 8 (by decide)
    have hT_9 : gT G 9 = 3 := hK 9 (by decide)
    have hT_10 : gT G 10 = 8 := hK 10 (by decide)
    refine q_iload_n X 1 dL_isRight_219 rfl ?_
    refine q_aload_n X 0 dL_isRight_220 rfl ?_
    refine q_bipush (v := 10) X dL_isRight_221 (by decide) ?_
    refine q_callV (h1 := _) (rest := [.int k]) (As := [.int 10]) X (c_X9_count (l := l) hG   10 hK) mf_X9_count mv_X9_count cf_X9 rfl (ac_0_0 hT_0) lk_L_12 rfl ⟨by decide, by decide⟩ ⟨Nat.le_refl _, Nat.le_refl _⟩ rfl (Nat.le_of_ble_eq_true rfl) dL_isRight_223 (st2 := [.int (S_X9_count h 10), .int k]) rfl ?_
    refine q_icmp_ge (tgt := 254) X dL_isRight_226 (by decide) (fun c24 => ?_) (fun c24 => ?_)
    · skip
      refine q_iconst (v := 1) X dL_isRight_254 (by decide) ?_
      have E : Z = 1 := by exact hZ.symm.trans ((if_pos c24).trans rfl)
      exact q_zret X hret rfl dL_isRight_255 (by rw [E]) rfl
    · skip
      refine q_aload_n X 0 dL_isRight_229 rfl ?_
      refine q_iload_n X 1 dL_isRight_230 rfl ?_
      refine q_iconst (v := 0) X dL_isRight_231 (by decide) ?_
      refine q_callV (h1 := _) (rest := []) (As := [.int k, .int 0]) X (c_X9_logged (l := l) hG   k 0 hK) mf_X9_logged mv_X9_logged cf_X9 rfl (ac_0_0 hT_0) lk_L_21 rfl ⟨by decide, by decide⟩ ⟨Nat.le_refl _, Nat.le_refl _⟩ rfl (Nat.le_of_ble_eq_true rfl) dL_isRight_232 (st2 := [.int (S_X9_logged h k 0)]) rfl ?_
      refine q_aload_n X 0 dL_isRight_235 rfl ?_
      refine q_iconst (v := 0) X dL_isRight_236 (by decide) ?_
      refine q_iconst (v := 0) X dL_isRight_237 (by decide) ?_
      refine q_callV (h1 := _) (rest := [.int (S_X9_logged h k 0)]) (As := [.int 0, .int 0]) X (c_X9_logged (l := l) hG   0 0 hK) mf_X9_logged mv_X9_logged cf_X9 rfl (ac_0_0 hT_0) lk_L_21 rfl ⟨by decide, by decide⟩ ⟨Nat.le_refl _, Nat.le_refl _⟩ rfl (Nat.le_of_ble_eq_true rfl) dL_isRight_238 (st2 := [.int (S_X9_logged h 0 0), .int (S_X9_logged h k 0)]) rfl ?_
      refine q_iload_n X 1 dL_isRight_241 rfl ?_
      refine q_isub X dL_isRight_242 ?_
      refine q_icmp_eq (tgt := 248) X dL_isRight_243 (by decide) (fun c25 => ?_) (fun c25 => ?_)
      · skip
        refine q_iinc (v := k + 1) (lv' := [(1, .int (k + 1)), (0, .ref (gA G 0 0))]) X 1 dL_isRight_248 rfl rfl (by decide) rfl ?_
        refine q_goto (tgt := 219) X dL_isRight_251 (by decide) ?_
        refine q_sub (lv2 := [(0, .ref (gA G 0 0)), (1, .int (k + 1))]) [1, 0] rfl ?_
        have E : L_L_isRight_219 fu h (k + 1) = Z := Eq.trans (Eq.symm (by exact (if_neg c24).trans ((if_pos c25).trans rfl))) hZ
        exact ih (k + 1)  (by exact ms_up c24 hm) E
      · skip
        refine q_iconst (v := 0) X dL_isRight_246 (by decide) ?_
        have E : Z = 0 := by exact hZ.symm.trans ((if_neg c24).trans ((if_neg c25).trans rfl))
        exact q_zret X hret rfl dL_isRight_247 (by rw [E]) rfl
set_option maxRecDepth 100000 in
set_option maxHeartbeats 4000000 in
theorem c_L_isRight {G : Geo} {l : Launch} (hG : GOK G) {h : Hp}  (hK : KT G) : CM G l yL_isRight cL_isRight 2 (some .boolean) 4 85 [.ref (gA G 0 0)] h h (some (.int (S_L_isRight h))) := by
  obtain ⟨Z, hZ⟩ : ∃ Z, S_L_isRight h = Z := ⟨_, rfl⟩
  rw [hZ]
  refine q_enter hG mf_L_isRight (Nat.le_of_ble_eq_true rfl) ?_
  intro p e s m below meth c X hret
  have hT_0 : gT G 0 = 0 := hK 0 (by decide)
  have hT_1 : gT G 1 = 1 := hK 1 (by decide)
  have hT_2 : gT G 2 = 2 := hK 2 (by decide)
  have hT_3 : gT G 3 = 3 := hK 3 (by decide)
  have hT_4 : gT G 4 = 3 := hK 4 (by decide)
  have hT_5 : gT G 5 = 5 := hK 5 (by decide)
  have hT_6 : gT G 6 = 2 := hK 6 (by decide)
  have hT_7 : gT G 7 = 6 := hK 7 (by decide)
  have hT_8 : gT G 8 = 7 := hK 8 (by decide)
  have hT_9 : gT G 9 = 3 := hK 9 (by decide)
  have hT_10 : gT G 10 = 8 := hK 10 (by decide)
  refine q_lv (lv2 := [(0, .ref (gA G 0 0))]) rfl ?_
  refine q_aload_n X 0 dL_isRight_0 rfl ?_
  refine q_iconst (v := 5) X dL_isRight_1 (by decide) ?_
  refine q_callV (h1 := _) (rest := []) (As := [.int 5]) X (c_X9_count (l := l) hG   5 hK) mf_X9_count mv_X9_count cf_X9 rfl (ac_0_0 hT_0) lk_L_12 rfl ⟨by decide, by decide⟩ ⟨Nat.le_refl _, Nat.le_refl _⟩ rfl (Nat.le_of_ble_eq_true rfl) dL_isRight_2 (st2 := [.int (S_X9_count h 5)]) rfl ?_
  refine q_if_lt (tgt := 74) X dL_isRight_5 (by decide) (fun c1 => ?_) (fun c1 => ?_)
  · skip
    refine q_iconst (v := 0) X dL_isRight_74 (by decide) ?_
    have E : Z = 0 := by exact hZ.symm.trans ((if_pos c1).trans rfl)
    exact q_zret X hret rfl dL_isRight_75 (by rw [E]) rfl
  · skip
    refine q_aload_n X 0 dL_isRight_8 rfl ?_
    refine q_iconst (v := 5) X dL_isRight_9 (by decide) ?_
    refine q_callV (h1 := _) (rest := []) (As := [.int 5]) X (c_X9_count (l := l) hG   5 hK) mf_X9_count mv_X9_count cf_X9 rfl (ac_0_0 hT_0) lk_L_12 rfl ⟨by decide, by decide⟩ ⟨Nat.le_refl _, Nat.le_refl _⟩ rfl (Nat.le_of_ble_eq_true rfl) dL_isRight_10 (st2 := [.int (S_X9_count h 5)]) rfl ?_
    refine q_bipush (v := 100) X dL_isRight_13 (by decide) ?_
    refine q_icmp_gt (tgt := 74) X dL_isRight_15 (by decide) (fun c2 => ?_) (fun c2 => ?_)
    · skip
      refine q_iconst (v := 0) X dL_isRight_74 (by decide) ?_
      have E : Z = 0 := by exact hZ.symm.trans ((if_neg c1).trans ((if_pos c2).trans rfl))
      exact q_zret X hret rfl dL_isRight_75 (by rw [E]) rfl
    · skip
      refine q_aload_n X 0 dL_isRight_18 rfl ?_
      refine q_bipush (v := 6) X dL_isRight_19 (by decide) ?_
      refine q_callV (h1 := _) (rest := []) (As := [.int 6]) X (c_X9_count (l := l) hG   6 hK) mf_X9_count mv_X9_count cf_X9 rfl (ac_0_0 hT_0) lk_L_12 rfl ⟨by decide, by decide⟩ ⟨Nat.le_refl _, Nat.le_refl _⟩ rfl (Nat.le_of_ble_eq_true rfl) dL_isRight_21 (st2 := [.int (S_X9_count h 6)]) rfl ?_
      refine q_iconst (v := 1) X dL_isRight_24 (by decide) ?_
      refine q_icmp_lt (tgt := 74) X dL_isRight_25 (by decide) (fun c3 => ?_) (fun c3 => ?_)
      · skip
        refine q_iconst (v := 0) X dL_isRight_74 (by decide) ?_
        have E : Z = 0 := by exact hZ.symm.trans ((if_neg c1).trans ((if_neg c2).trans ((if_pos c3).trans rfl)))
        exact q_zret X hret rfl dL_isRight_75 (by rw [E]) rfl
      · skip
        refine q_aload_n X 0 dL_isRight_28 rfl ?_
        refine q_bipush (v := 6) X dL_isRight_29 (by decide) ?_
        refine q_callV (h1 := _) (rest := []) (As := [.int 6]) X (c_X9_count (l := l) hG   6 hK) mf_X9_count mv_X9_count cf_X9 rfl (ac_0_0 hT_0) lk_L_12 rfl ⟨by decide, by decide⟩ ⟨Nat.le_refl _, Nat.le_refl _⟩ rfl (Nat.le_of_ble_eq_true rfl) dL_isRight_31 (st2 := [.int (S_X9_count h 6)]) rfl ?_
        refine q_bipush (v := 60) X dL_isRight_34 (by decide) ?_
        refine q_icmp_gt (tgt := 74) X dL_isRight_36 (by decide) (fun c4 => ?_) (fun c4 => ?_)
        · skip
          refine q_iconst (v := 0) X dL_isRight_74 (by decide) ?_
          have E : Z = 0 := by exact hZ.symm.trans ((if_neg c1).trans ((if_neg c2).trans ((if_neg c3).trans ((if_pos c4).trans rfl))))
          exact q_zret X hret rfl dL_isRight_75 (by rw [E]) rfl
        · skip
          refine q_aload_n X 0 dL_isRight_39 rfl ?_
          refine q_bipush (v := 10) X dL_isRight_40 (by decide) ?_
          refine q_callV (h1 := _) (rest := []) (As := [.int 10]) X (c_X9_count (l := l) hG   10 hK) mf_X9_count mv_X9_count cf_X9 rfl (ac_0_0 hT_0) lk_L_12 rfl ⟨by decide, by decide⟩ ⟨Nat.le_refl _, Nat.le_refl _⟩ rfl (Nat.le_of_ble_eq_true rfl) dL_isRight_42 (st2 := [.int (S_X9_count h 10)]) rfl ?_
          refine q_bipush (v := 8) X dL_isRight_45 (by decide) ?_
          refine q_icmp_gt (tgt := 74) X dL_isRight_47 (by decide) (fun c5 => ?_) (fun c5 => ?_)
          · skip
            refine q_iconst (v := 0) X dL_isRight_74 (by decide) ?_
            have E : Z = 0 := by exact hZ.symm.trans ((if_neg c1).trans ((if_neg c2).trans ((if_neg c3).trans ((if_neg c4).trans ((if_pos c5).trans rfl)))))
            exact q_zret X hret rfl dL_isRight_75 (by rw [E]) rfl
          · skip
            refine q_aload_n X 0 dL_isRight_50 rfl ?_
            refine q_bipush (v := 7) X dL_isRight_51 (by decide) ?_
            refine q_callV (h1 := _) (rest := []) (As := [.int 7]) X (c_X9_count (l := l) hG   7 hK) mf_X9_count mv_X9_count cf_X9 rfl (ac_0_0 hT_0) lk_L_12 rfl ⟨by decide, by decide⟩ ⟨Nat.le_refl _, Nat.le_refl _⟩ rfl (Nat.le_of_ble_eq_true rfl) dL_isRight_53 (st2 := [.int (S_X9_count h 7)]) rfl ?_
            refine q_sipush (v := 20000) X dL_isRight_56 (by decide) ?_
            refine q_icmp_gt (tgt := 74) X dL_isRight_59 (by decide) (fun c6 => ?_) (fun c6 => ?_)
            · skip
              refine q_iconst (v := 0) X dL_isRight_74 (by decide) ?_
              have E : Z = 0 := by exact hZ.symm.trans ((if_neg c1).trans ((if_neg c2).trans ((if_neg c3).trans ((if_neg c4).trans ((if_neg c5).trans ((if_pos c6).trans rfl))))))
              exact q_zret X hret rfl dL_isRight_75 (by rw [E]) rfl
            · skip
              refine q_aload_n X 0 dL_isRight_62 rfl ?_
              refine q_bipush (v := 7) X dL_isRight_63 (by decide) ?_
              refine q_callV (h1 := _) (rest := []) (As := [.int 7]) X (c_X9_count (l := l) hG   7 hK) mf_X9_count mv_X9_count cf_X9 rfl (ac_0_0 hT_0) lk_L_12 rfl ⟨by decide, by decide⟩ ⟨Nat.le_refl _, Nat.le_refl _⟩ rfl (Nat.le_of_ble_eq_true rfl) dL_isRight_65 (st2 := [.int (S_X9_count h 7)]) rfl ?_
              refine q_sipush (v := (-20000)) X dL_isRight_68 (by decide) ?_
              refine q_icmp_ge (tgt := 76) X dL_isRight_71 (by decide) (fun c7 => ?_) (fun c7 => ?_)
              · skip
                refine q_aload_n X 0 dL_isRight_76 rfl ?_
                refine q_iconst (v := 1) X dL_isRight_77 (by decide) ?_
                refine q_callV (h1 := _) (rest := []) (As := [.int 1]) X (c_X9_count (l := l) hG   1 hK) mf_X9_count mv_X9_count cf_X9 rfl (ac_0_0 hT_0) lk_L_12 rfl ⟨by decide, by decide⟩ ⟨Nat.le_refl _, Nat.le_refl _⟩ rfl (Nat.le_of_ble_eq_true rfl) dL_isRight_78 (st2 := [.int (S_X9_count h 1)]) rfl ?_
                refine q_if_eq (tgt := 217) X dL_isRight_81 (by decide) (fun c8 => ?_) (fun c8 => ?_)
                · skip
                  refine q_iconst (v := 1) X dL_isRight_217 (by decide) ?_
                  refine q_istore_n (lv' := [(1, .int 1), (0, .ref (gA G 0 0))]) X dL_isRight_218 (by decide) rfl ?_
                  refine q_sub (lv2 := [(0, .ref (gA G 0 0)), (1, .int 1)]) [1, 0] rfl ?_
                  have E : L_L_isRight_219 (((S_X9_count h 10).toInt - (1 : Int32).toInt).toNat + 1) h 1 = Z := Eq.trans (Eq.symm (by exact (if_neg c1).trans ((if_neg c2).trans ((if_neg c3).trans ((if_neg c4).trans ((if_neg c5).trans ((if_neg c6).trans ((if_pos c7).trans ((if_pos c8).trans rfl))))))))) hZ
                  exact w_L_isRight_219 X hret hK Z (((S_X9_count h 10).toInt - (1 : Int32).toInt).toNat + 1) 1  (by exact Nat.lt_succ_self _) E
                · skip
                  refine q_aload_n X 0 dL_isRight_84 rfl ?_
                  refine q_iconst (v := 4) X dL_isRight_85 (by decide) ?_
                  refine q_callV (h1 := _) (rest := []) (As := [.int 4]) X (c_X9_batch (l := l) hG   4 hK) mf_X9_batch mv_X9_batch cf_X9 rfl (ac_0_0 hT_0) lk_L_18 rfl ⟨by decide, by decide⟩ ⟨Nat.le_refl _, Nat.le_refl _⟩ rfl (Nat.le_of_ble_eq_true rfl) dL_isRight_86 (st2 := [.int (S_X9_batch h 4)]) rfl ?_
                  refine q_if_lt (tgt := 162) X dL_isRight_89 (by decide) (fun c9 => ?_) (fun c9 => ?_)
                  · skip
                    refine q_iconst (v := 0) X dL_isRight_162 (by decide) ?_
                    have E : Z = 0 := by exact hZ.symm.trans ((if_neg c1).trans ((if_neg c2).trans ((if_neg c3).trans ((if_neg c4).trans ((if_neg c5).trans ((if_neg c6).trans ((if_pos c7).trans ((if_neg c8).trans ((if_pos c9).trans rfl)))))))))
                    exact q_zret X hret rfl dL_isRight_163 (by rw [E]) rfl
                  · skip
                    refine q_aload_n X 0 dL_isRight_92 rfl ?_
                    refine q_iconst (v := 4) X dL_isRight_93 (by decide) ?_
                    refine q_callV (h1 := _) (rest := []) (As := [.int 4]) X (c_X9_batch (l := l) hG   4 hK) mf_X9_batch mv_X9_batch cf_X9 rfl (ac_0_0 hT_0) lk_L_18 rfl ⟨by decide, by decide⟩ ⟨Nat.le_refl _, Nat.le_refl _⟩ rfl (Nat.le_of_ble_eq_true rfl) dL_isRight_94 (st2 := [.int (S_X9_batch h 4)]) rfl ?_
                    refine q_sipush (v := 1000) X dL_isRight_97 (by decide) ?_
                    refine q_icmp_gt (tgt := 162) X dL_isRight_100 (by decide) (fun c10 => ?_) (fun c10 => ?_)
                    · skip
                      refine q_iconst (v := 0) X dL_isRight_162 (by decide) ?_
                      have E : Z = 0 := by exact hZ.symm.trans ((if_neg c1).trans ((if_neg c2).trans ((if_neg c3).trans ((if_neg c4).trans ((if_neg c5).trans ((if_neg c6).trans ((if_pos c7).trans ((if_neg c8).trans ((if_neg c9).trans ((if_pos c10).trans rfl))))))))))
                      exact q_zret X hret rfl dL_isRight_163 (by rw [E]) rfl
                    · skip
                      refine q_aload_n X 0 dL_isRight_103 rfl ?_
                      refine q_bipush (v := 6) X dL_isRight_104 (by decide) ?_
                      refine q_callV (h1 := _) (rest := []) (As := [.int 6]) X (c_X9_batch (l := l) hG   6 hK) mf_X9_batch mv_X9_batch cf_X9 rfl (ac_0_0 hT_0) lk_L_18 rfl ⟨by decide, by decide⟩ ⟨Nat.le_refl _, Nat.le_refl _⟩ rfl (Nat.le_of_ble_eq_true rfl) dL_isRight_106 (st2 := [.int (S_X9_batch h 6)]) rfl ?_
                      refine q_aload_n X 0 dL_isRight_109 rfl ?_
                      refine q_iconst (v := 4) X dL_isRight_110 (by decide) ?_
                      refine q_callV (h1 := _) (rest := [.int (S_X9_batch h 6)]) (As := [.int 4]) X (c_X9_batch (l := l) hG   4 hK) mf_X9_batch mv_X9_batch cf_X9 rfl (ac_0_0 hT_0) lk_L_18 rfl ⟨by decide, by decide⟩ ⟨Nat.le_refl _, Nat.le_refl _⟩ rfl (Nat.le_of_ble_eq_true rfl) dL_isRight_111 (st2 := [.int (S_X9_batch h 4), .int (S_X9_batch h 6)]) rfl ?_
                      refine q_icmp_gt (tgt := 162) X dL_isRight_114 (by decide) (fun c11 => ?_) (fun c11 => ?_)
                      · skip
                        refine q_iconst (v := 0) X dL_isRight_162 (by decide) ?_
                        have E : Z = 0 := by exact hZ.symm.trans ((if_neg c1).trans ((if_neg c2).trans ((if_neg c3).trans ((if_neg c4).trans ((if_neg c5).trans ((if_neg c6).trans ((if_pos c7).trans ((if_neg c8).trans ((if_neg c9).trans ((if_neg c10).trans ((if_pos c11).trans rfl)))))))))))
                        exact q_zret X hret rfl dL_isRight_163 (by rw [E]) rfl
                      · skip
                        refine q_aload_n X 0 dL_isRight_117 rfl ?_
                        refine q_iconst (v := 5) X dL_isRight_118 (by decide) ?_
                        refine q_callV (h1 := _) (rest := []) (As := [.int 5]) X (c_X9_batch (l := l) hG   5 hK) mf_X9_batch mv_X9_batch cf_X9 rfl (ac_0_0 hT_0) lk_L_18 rfl ⟨by decide, by decide⟩ ⟨Nat.le_refl _, Nat.le_refl _⟩ rfl (Nat.le_of_ble_eq_true rfl) dL_isRight_119 (st2 := [.int (S_X9_batch h 5)]) rfl ?_
                        refine q_aload_n X 0 dL_isRight_122 rfl ?_
                        refine q_bipush (v := 6) X dL_isRight_123 (by decide) ?_
                        refine q_callV (h1 := _) (rest := [.int (S_X9_batch h 5)]) (As := [.int 6]) X (c_X9_batch (l := l) hG   6 hK) mf_X9_batch mv_X9_batch cf_X9 rfl (ac_0_0 hT_0) lk_L_18 rfl ⟨by decide, by decide⟩ ⟨Nat.le_refl _, Nat.le_refl _⟩ rfl (Nat.le_of_ble_eq_true rfl) dL_isRight_125 (st2 := [.int (S_X9_batch h 6), .int (S_X9_batch h 5)]) rfl ?_
                        refine q_icmp_gt (tgt := 162) X dL_isRight_128 (by decide) (fun c12 => ?_) (fun c12 => ?_)
                        · skip
                          refine q_iconst (v := 0) X dL_isRight_162 (by decide) ?_
                          have E : Z = 0 := by exact hZ.symm.trans ((if_neg c1).trans ((if_neg c2).trans ((if_neg c3).trans ((if_neg c4).trans ((if_neg c5).trans ((if_neg c6).trans ((if_pos c7).trans ((if_neg c8).trans ((if_neg c9).trans ((if_neg c10).trans ((if_neg c11).trans ((if_pos c12).trans rfl))))))))))))
                          exact q_zret X hret rfl dL_isRight_163 (by rw [E]) rfl
                        · skip
                          refine q_aload_n X 0 dL_isRight_131 rfl ?_
                          refine q_iconst (v := 3) X dL_isRight_132 (by decide) ?_
                          refine q_callV (h1 := _) (rest := []) (As := [.int 3]) X (c_X9_batch (l := l) hG   3 hK) mf_X9_batch mv_X9_batch cf_X9 rfl (ac_0_0 hT_0) lk_L_18 rfl ⟨by decide, by decide⟩ ⟨Nat.le_refl _, Nat.le_refl _⟩ rfl (Nat.le_of_ble_eq_true rfl) dL_isRight_133 (st2 := [.int (S_X9_batch h 3)]) rfl ?_
                          refine q_if_lt (tgt := 162) X dL_isRight_136 (by decide) (fun c13 => ?_) (fun c13 => ?_)
                          · skip
                            refine q_iconst (v := 0) X dL_isRight_162 (by decide) ?_
                            have E : Z = 0 := by exact hZ.symm.trans ((if_neg c1).trans ((if_neg c2).trans ((if_neg c3).trans ((if_neg c4).trans ((if_neg c5).trans ((if_neg c6).trans ((if_pos c7).trans ((if_neg c8).trans ((if_neg c9).trans ((if_neg c10).trans ((if_neg c11).trans ((if_neg c12).trans ((if_pos c13).trans rfl)))))))))))))
                            exact q_zret X hret rfl dL_isRight_163 (by rw [E]) rfl
                          · skip
                            refine q_aload_n X 0 dL_isRight_139 rfl ?_
                            refine q_bipush (v := 9) X dL_isRight_140 (by decide) ?_
                            refine q_callV (h1 := _) (rest := []) (As := [.int 9]) X (c_X9_batch (l := l) hG   9 hK) mf_X9_batch mv_X9_batch cf_X9 rfl (ac_0_0 hT_0) lk_L_18 rfl ⟨by decide, by decide⟩ ⟨Nat.le_refl _, Nat.le_refl _⟩ rfl (Nat.le_of_ble_eq_true rfl) dL_isRight_142 (st2 := [.int (S_X9_batch h 9)]) rfl ?_
                            refine q_aload_n X 0 dL_isRight_145 rfl ?_
                            refine q_iconst (v := 0) X dL_isRight_146 (by decide) ?_
                            refine q_callV (h1 := _) (rest := [.int (S_X9_batch h 9)]) (As := [.int 0]) X (c_X9_batch (l := l) hG   0 hK) mf_X9_batch mv_X9_batch cf_X9 rfl (ac_0_0 hT_0) lk_L_18 rfl ⟨by decide, by decide⟩ ⟨Nat.le_refl _, Nat.le_refl _⟩ rfl (Nat.le_of_ble_eq_true rfl) dL_isRight_147 (st2 := [.int (S_X9_batch h 0), .int (S_X9_batch h 9)]) rfl ?_
                            refine q_icmp_ge (tgt := 164) X dL_isRight_150 (by decide) (fun c14 => ?_) (fun c14 => ?_)
                            · skip
                              refine q_aload_n X 0 dL_isRight_164 rfl ?_
                              refine q_bipush (v := 7) X dL_isRight_165 (by decide) ?_
                              refine q_callV (h1 := _) (rest := []) (As := [.int 7]) X (c_X9_batch (l := l) hG   7 hK) mf_X9_batch mv_X9_batch cf_X9 rfl (ac_0_0 hT_0) lk_L_18 rfl ⟨by decide, by decide⟩ ⟨Nat.le_refl _, Nat.le_refl _⟩ rfl (Nat.le_of_ble_eq_true rfl) dL_isRight_167 (st2 := [.int (S_X9_batch h 7)]) rfl ?_
                              refine q_if_eq (tgt := 215) X dL_isRight_170 (by decide) (fun c15 => ?_) (fun c15 => ?_)
                              · skip
                                refine q_iconst (v := 0) X dL_isRight_215 (by decide) ?_
                                have E : Z = 0 := by exact hZ.symm.trans ((if_neg c1).trans ((if_neg c2).trans ((if_neg c3).trans ((if_neg c4).trans ((if_neg c5).trans ((if_neg c6).trans ((if_pos c7).trans ((if_neg c8).trans ((if_neg c9).trans ((if_neg c10).trans ((if_neg c11).trans ((if_neg c12).trans ((if_neg c13).trans ((if_pos c14).trans ((if_pos c15).trans rfl)))))))))))))))
                                exact q_zret X hret rfl dL_isRight_216 (by rw [E]) rfl
                              · skip
                                refine q_aload_n X 0 dL_isRight_173 rfl ?_
                                refine q_bipush (v := 8) X dL_isRight_174 (by decide) ?_
                                refine q_callV (h1 := _) (rest := []) (As := [.int 8]) X (c_X9_batch (l := l) hG   8 hK) mf_X9_batch mv_X9_batch cf_X9 rfl (ac_0_0 hT_0) lk_L_18 rfl ⟨by decide, by decide⟩ ⟨Nat.le_refl _, Nat.le_refl _⟩ rfl (Nat.le_of_ble_eq_true rfl) dL_isRight_176 (st2 := [.int (S_X9_batch h 8)]) rfl ?_
                                refine q_if_lt (tgt := 197) X dL_isRight_179 (by decide) (fun c16 => ?_) (fun c16 => ?_)
                                · skip
                                  refine q_aload_n X 0 dL_isRight_197 rfl ?_
                                  refine q_bipush (v := 8) X dL_isRight_198 (by decide) ?_
                                  refine q_callV (h1 := _) (rest := []) (As := [.int 8]) X (c_X9_batch (l := l) hG   8 hK) mf_X9_batch mv_X9_batch cf_X9 rfl (ac_0_0 hT_0) lk_L_18 rfl ⟨by decide, by decide⟩ ⟨Nat.le_refl _, Nat.le_refl _⟩ rfl (Nat.le_of_ble_eq_true rfl) dL_isRight_200 (st2 := [.int (S_X9_batch h 8)]) rfl ?_
                                  refine q_if_lt (tgt := 217) X dL_isRight_203 (by decide) (fun _ => ?_) (fun q => absurd c16 q)
                                  refine q_iconst (v := 1) X dL_isRight_217 (by decide) ?_
                                  refine q_istore_n (lv' := [(1, .int 1), (0, .ref (gA G 0 0))]) X dL_isRight_218 (by decide) rfl ?_
                                  refine q_sub (lv2 := [(0, .ref (gA G 0 0)), (1, .int 1)]) [1, 0] rfl ?_
                                  have E : L_L_isRight_219 (((S_X9_count h 10).toInt - (1 : Int32).toInt).toNat + 1) h 1 = Z := Eq.trans (Eq.symm (by exact (if_neg c1).trans ((if_neg c2).trans ((if_neg c3).trans ((if_neg c4).trans ((if_neg c5).trans ((if_neg c6).trans ((if_pos c7).trans ((if_neg c8).trans ((if_neg c9).trans ((if_neg c10).trans ((if_neg c11).trans ((if_neg c12).trans ((if_neg c13).trans ((if_pos c14).trans ((if_neg c15).trans ((if_pos c16).trans rfl))))))))))))))))) hZ
                                  exact w_L_isRight_219 X hret hK Z (((S_X9_count h 10).toInt - (1 : Int32).toInt).toNat + 1) 1  (by exact Nat.lt_succ_self _) E
                                · skip
                                  refine q_aload_n X 0 dL_isRight_182 rfl ?_
                                  refine q_bipush (v := 8) X dL_isRight_183 (by decide) ?_
                                  refine q_callV (h1 := _) (rest := []) (As := [.int 8]) X (c_X9_batch (l := l) hG   8 hK) mf_X9_batch mv_X9_batch cf_X9 rfl (ac_0_0 hT_0) lk_L_18 rfl ⟨by decide, by decide⟩ ⟨Nat.le_refl _, Nat.le_refl _⟩ rfl (Nat.le_of_ble_eq_true rfl) dL_isRight_185 (st2 := [.int (S_X9_batch h 8)]) rfl ?_
                                  refine q_aload_n X 0 dL_isRight_188 rfl ?_
                                  refine q_bipush (v := 7) X dL_isRight_189 (by decide) ?_
                                  refine q_callV (h1 := _) (rest := [.int (S_X9_batch h 8)]) (As := [.int 7]) X (c_X9_batch (l := l) hG   7 hK) mf_X9_batch mv_X9_batch cf_X9 rfl (ac_0_0 hT_0) lk_L_18 rfl ⟨by decide, by decide⟩ ⟨Nat.le_refl _, Nat.le_refl _⟩ rfl (Nat.le_of_ble_eq_true rfl) dL_isRight_191 (st2 := [.int (S_X9_batch h 7), .int (S_X9_batch h 8)]) rfl ?_
                                  refine q_icmp_le (tgt := 215) X dL_isRight_194 (by decide) (fun c17 => ?_) (fun c17 => ?_)
                                  · skip
                                    refine q_iconst (v := 0) X dL_isRight_215 (by decide) ?_
                                    have E : Z = 0 := by exact hZ.symm.trans ((if_neg c1).trans ((if_neg c2).trans ((if_neg c3).trans ((if_neg c4).trans ((if_neg c5).trans ((if_neg c6).trans ((if_pos c7).trans ((if_neg c8).trans ((if_neg c9).trans ((if_neg c10).trans ((if_neg c11).trans ((if_neg c12).trans ((if_neg c13).trans ((if_pos c14).trans ((if_neg c15).trans ((if_neg c16).trans ((if_pos c17).trans rfl)))))))))))))))))
                                    exact q_zret X hret rfl dL_isRight_216 (by rw [E]) rfl
                                  · skip
                                    refine q_aload_n X 0 dL_isRight_197 rfl ?_
                                    refine q_bipush (v := 8) X dL_isRight_198 (by decide) ?_
                                    refine q_callV (h1 := _) (rest := []) (As := [.int 8]) X (c_X9_batch (l := l) hG   8 hK) mf_X9_batch mv_X9_batch cf_X9 rfl (ac_0_0 hT_0) lk_L_18 rfl ⟨by decide, by decide⟩ ⟨Nat.le_refl _, Nat.le_refl _⟩ rfl (Nat.le_of_ble_eq_true rfl) dL_isRight_200 (st2 := [.int (S_X9_batch h 8)]) rfl ?_
                                    refine q_if_lt (tgt := 217) X dL_isRight_203 (by decide) (fun q => absurd q c16) (fun _ => ?_)
                                    refine q_aload_n X 0 dL_isRight_206 rfl ?_
                                    refine q_bipush (v := 7) X dL_isRight_207 (by decide) ?_
                                    refine q_callV (h1 := _) (rest := []) (As := [.int 7]) X (c_X9_batch (l := l) hG   7 hK) mf_X9_batch mv_X9_batch cf_X9 rfl (ac_0_0 hT_0) lk_L_18 rfl ⟨by decide, by decide⟩ ⟨Nat.le_refl _, Nat.le_refl _⟩ rfl (Nat.le_of_ble_eq_true rfl) dL_isRight_209 (st2 := [.int (S_X9_batch h 7)]) rfl ?_
                                    refine q_if_ge (tgt := 217) X dL_isRight_212 (by decide) (fun c18 => ?_) (fun c18 => ?_)
                                    · skip
                                      refine q_iconst (v := 1) X dL_isRight_217 (by decide) ?_
                                      refine q_istore_n (lv' := [(1, .int 1), (0, .ref (gA G 0 0))]) X dL_isRight_218 (by decide) rfl ?_
                                      refine q_sub (lv2 := [(0, .ref (gA G 0 0)), (1, .int 1)]) [1, 0] rfl ?_
                                      have E : L_L_isRight_219 (((S_X9_count h 10).toInt - (1 : Int32).toInt).toNat + 1) h 1 = Z := Eq.trans (Eq.symm (by exact (if_neg c1).trans ((if_neg c2).trans ((if_neg c3).trans ((if_neg c4).trans ((if_neg c5).trans ((if_neg c6).trans ((if_pos c7).trans ((if_neg c8).trans ((if_neg c9).trans ((if_neg c10).trans ((if_neg c11).trans ((if_neg c12).trans ((if_neg c13).trans ((if_pos c14).trans ((if_neg c15).trans ((if_neg c16).trans ((if_neg c17).trans ((if_pos c18).trans rfl))))))))))))))))))) hZ
                                      exact w_L_isRight_219 X hret hK Z (((S_X9_count h 10).toInt - (1 : Int32).toInt).toNat + 1) 1  (by exact Nat.lt_succ_self _) E
                                    · skip
                                      refine q_iconst (v := 0) X dL_isRight_215 (by decide) ?_
                                      have E : Z = 0 := by exact hZ.symm.trans ((if_neg c1).trans ((if_neg c2).trans ((if_neg c3).trans ((if_neg c4).trans ((if_neg c5).trans ((if_neg c6).trans ((if_pos c7).trans ((if_neg c8).trans ((if_neg c9).trans ((if_neg c10).trans ((if_neg c11).trans ((if_neg c12).trans ((if_neg c13).trans ((if_pos c14).trans ((if_neg c15).trans ((if_neg c16).trans ((if_neg c17).trans ((if_neg c18).trans rfl))))))))))))))))))
                                      exact q_zret X hret rfl dL_isRight_216 (by rw [E]) rfl
                            · skip
                              refine q_aload_n X 0 dL_isRight_153 rfl ?_
                              refine q_iconst (v := 1) X dL_isRight_154 (by decide) ?_
                              refine q_callV (h1 := _) (rest := []) (As := [.int 1]) X (c_X9_count (l := l) hG   1 hK) mf_X9_count mv_X9_count cf_X9 rfl (ac_0_0 hT_0) lk_L_12 rfl ⟨by decide, by decide⟩ ⟨Nat.le_refl _, Nat.le_refl _⟩ rfl (Nat.le_of_ble_eq_true rfl) dL_isRight_155 (st2 := [.int (S_X9_count h 1)]) rfl ?_
                              refine q_iconst (v := 1) X dL_isRight_158 (by decide) ?_
                              refine q_icmp_ne (tgt := 164) X dL_isRight_159 (by decide) (fun c19 => ?_) (fun c19 => ?_)
                              · skip
                                refine q_aload_n X 0 dL_isRight_164 rfl ?_
                                refine q_bipush (v := 7) X dL_isRight_165 (by decide) ?_
                                refine q_callV (h1 := _) (rest := []) (As := [.int 7]) X (c_X9_batch (l := l) hG   7 hK) mf_X9_batch mv_X9_batch cf_X9 rfl (ac_0_0 hT_0) lk_L_18 rfl ⟨by decide, by decide⟩ ⟨Nat.le_refl _, Nat.le_refl _⟩ rfl (Nat.le_of_ble_eq_true rfl) dL_isRight_167 (st2 := [.int (S_X9_batch h 7)]) rfl ?_
                                refine q_if_eq (tgt := 215) X dL_isRight_170 (by decide) (fun c20 => ?_) (fun c20 => ?_)
                                · skip
                                  refine q_iconst (v := 0) X dL_isRight_215 (by decide) ?_
                                  have E : Z = 0 := by exact hZ.symm.trans ((if_neg c1).trans ((if_neg c2).trans ((if_neg c3).trans ((if_neg c4).trans ((if_neg c5).trans ((if_neg c6).trans ((if_pos c7).trans ((if_neg c8).trans ((if_neg c9).trans ((if_neg c10).trans ((if_neg c11).trans ((if_neg c12).trans ((if_neg c13).trans ((if_neg c14).trans ((if_neg c19).trans ((if_pos c20).trans rfl))))))))))))))))
                                  exact q_zret X hret rfl dL_isRight_216 (by rw [E]) rfl
                                · skip
                                  refine q_aload_n X 0 dL_isRight_173 rfl ?_
                                  refine q_bipush (v := 8) X dL_isRight_174 (by decide) ?_
                                  refine q_callV (h1 := _) (rest := []) (As := [.int 8]) X (c_X9_batch (l := l) hG   8 hK) mf_X9_batch mv_X9_batch cf_X9 rfl (ac_0_0 hT_0) lk_L_18 rfl ⟨by decide, by decide⟩ ⟨Nat.le_refl _, Nat.le_refl _⟩ rfl (Nat.le_of_ble_eq_true rfl) dL_isRight_176 (st2 := [.int (S_X9_batch h 8)]) rfl ?_
                                  refine q_if_lt (tgt := 197) X dL_isRight_179 (by decide) (fun c21 => ?_) (fun c21 => ?_)
                                  · skip
                                    refine q_aload_n X 0 dL_isRight_197 rfl ?_
                                    refine q_bipush (v := 8) X dL_isRight_198 (by decide) ?_
                                    refine q_callV (h1 := _) (rest := []) (As := [.int 8]) X (c_X9_batch (l := l) hG   8 hK) mf_X9_batch mv_X9_batch cf_X9 rfl (ac_0_0 hT_0) lk_L_18 rfl ⟨by decide, by decide⟩ ⟨Nat.le_refl _, Nat.le_refl _⟩ rfl (Nat.le_of_ble_eq_true rfl) dL_isRight_200 (st2 := [.int (S_X9_batch h 8)]) rfl ?_
                                    refine q_if_lt (tgt := 217) X dL_isRight_203 (by decide) (fun _ => ?_) (fun q => absurd c21 q)
                                    refine q_iconst (v := 1) X dL_isRight_217 (by decide) ?_
                                    refine q_istore_n (lv' := [(1, .int 1), (0, .ref (gA G 0 0))]) X dL_isRight_218 (by decide) rfl ?_
                                    refine q_sub (lv2 := [(0, .ref (gA G 0 0)), (1, .int 1)]) [1, 0] rfl ?_
                                    have E : L_L_isRight_219 (((S_X9_count h 10).toInt - (1 : Int32).toInt).toNat + 1) h 1 = Z := Eq.trans (Eq.symm (by exact (if_neg c1).trans ((if_neg c2).trans ((if_neg c3).trans ((if_neg c4).trans ((if_neg c5).trans ((if_neg c6).trans ((if_pos c7).trans ((if_neg c8).trans ((if_neg c9).trans ((if_neg c10).trans ((if_neg c11).trans ((if_neg c12).trans ((if_neg c13).trans ((if_neg c14).trans ((if_neg c19).trans ((if_neg c20).trans ((if_pos c21).trans rfl)))))))))))))))))) hZ
                                    exact w_L_isRight_219 X hret hK Z (((S_X9_count h 10).toInt - (1 : Int32).toInt).toNat + 1) 1  (by exact Nat.lt_succ_self _) E
                                  · skip
                                    refine q_aload_n X 0 dL_isRight_182 rfl ?_
                                    refine q_bipush (v := 8) X dL_isRight_183 (by decide) ?_
                                    refine q_callV (h1 := _) (rest := []) (As := [.int 8]) X (c_X9_batch (l := l) hG   8 hK) mf_X9_batch mv_X9_batch cf_X9 rfl (ac_0_0 hT_0) lk_L_18 rfl ⟨by decide, by decide⟩ ⟨Nat.le_refl _, Nat.le_refl _⟩ rfl (Nat.le_of_ble_eq_true rfl) dL_isRight_185 (st2 := [.int (S_X9_batch h 8)]) rfl ?_
                                    refine q_aload_n X 0 dL_isRight_188 rfl ?_
                                    refine q_bipush (v := 7) X dL_isRight_189 (by decide) ?_
                                    refine q_callV (h1 := _) (rest := [.int (S_X9_batch h 8)]) (As := [.int 7]) X (c_X9_batch (l := l) hG   7 hK) mf_X9_batch mv_X9_batch cf_X9 rfl (ac_0_0 hT_0) lk_L_18 rfl ⟨by decide, by decide⟩ ⟨Nat.le_refl _, Nat.le_refl _⟩ rfl (Nat.le_of_ble_eq_true rfl) dL_isRight_191 (st2 := [.int (S_X9_batch h 7), .int (S_X9_batch h 8)]) rfl ?_
                                    refine q_icmp_le (tgt := 215) X dL_isRight_194 (by decide) (fun c22 => ?_) (fun c22 => ?_)
                                    · skip
                                      refine q_iconst (v := 0) X dL_isRight_215 (by decide) ?_
                                      have E : Z = 0 := by exact hZ.symm.trans ((if_neg c1).trans ((if_neg c2).trans ((if_neg c3).trans ((if_neg c4).trans ((if_neg c5).trans ((if_neg c6).trans ((if_pos c7).trans ((if_neg c8).trans ((if_neg c9).trans ((if_neg c10).trans ((if_neg c11).trans ((if_neg c12).trans ((if_neg c13).trans ((if_neg c14).trans ((if_neg c19).trans ((if_neg c20).trans ((if_neg c21).trans ((if_pos c22).trans rfl))))))))))))))))))
                                      exact q_zret X hret rfl dL_isRight_216 (by rw [E]) rfl
                                    · skip
                                      refine q_aload_n X 0 dL_isRight_197 rfl ?_
                                      refine q_bipush (v := 8) X dL_isRight_198 (by decide) ?_
                                      refine q_callV (h1 := _) (rest := []) (As := [.int 8]) X (c_X9_batch (l := l) hG   8 hK) mf_X9_batch mv_X9_batch cf_X9 rfl (ac_0_0 hT_0) lk_L_18 rfl ⟨by decide, by decide⟩ ⟨Nat.le_refl _, Nat.le_refl _⟩ rfl (Nat.le_of_ble_eq_true rfl) dL_isRight_200 (st2 := [.int (S_X9_batch h 8)]) rfl ?_
                                      refine q_if_lt (tgt := 217) X dL_isRight_203 (by decide) (fun q => absurd q c21) (fun _ => ?_)
                                      refine q_aload_n X 0 dL_isRight_206 rfl ?_
                                      refine q_bipush (v := 7) X dL_isRight_207 (by decide) ?_
                                      refine q_callV (h1 := _) (rest := []) (As := [.int 7]) X (c_X9_batch (l := l) hG   7 hK) mf_X9_batch mv_X9_batch cf_X9 rfl (ac_0_0 hT_0) lk_L_18 rfl ⟨by decide, by decide⟩ ⟨Nat.le_refl _, Nat.le_refl _⟩ rfl (Nat.le_of_ble_eq_true rfl) dL_isRight_209 (st2 := [.int (S_X9_batch h 7)]) rfl ?_
                                      refine q_if_ge (tgt := 217) X dL_isRight_212 (by decide) (fun c23 => ?_) (fun c23 => ?_)
                                      · skip
                                        refine q_iconst (v := 1) X dL_isRight_217 (by decide) ?_
                                        refine q_istore_n (lv' := [(1, .int 1), (0, .ref (gA G 0 0))]) X dL_isRight_218 (by decide) rfl ?_
                                        refine q_sub (lv2 := [(0, .ref (gA G 0 0)), (1, .int 1)]) [1, 0] rfl ?_
                                        have E : L_L_isRight_219 (((S_X9_count h 10).toInt - (1 : Int32).toInt).toNat + 1) h 1 = Z := Eq.trans (Eq.symm (by exact (if_neg c1).trans ((if_neg c2).trans ((if_neg c3).trans ((if_neg c4).trans ((if_neg c5).trans ((if_neg c6).trans ((if_pos c7).trans ((if_neg c8).trans ((if_neg c9).trans ((if_neg c10).trans ((if_neg c11).trans ((if_neg c12).trans ((if_neg c13).trans ((if_neg c14).trans ((if_neg c19).trans ((if_neg c20).trans ((if_neg c21).trans ((if_neg c22).trans ((if_pos c23).trans rfl)))))))))))))))))))) hZ
                                        exact w_L_isRight_219 X hret hK Z (((S_X9_count h 10).toInt - (1 : Int32).toInt).toNat + 1) 1  (by exact Nat.lt_succ_self _) E
                                      · skip
                                        refine q_iconst (v := 0) X dL_isRight_215 (by decide) ?_
                                        have E : Z = 0 := by exact hZ.symm.trans ((if_neg c1).trans ((if_neg c2).trans ((if_neg c3).trans ((if_neg c4).trans ((if_neg c5).trans ((if_neg c6).trans ((if_pos c7).trans ((if_neg c8).trans ((if_neg c9).trans ((if_neg c10).trans ((if_neg c11).trans ((if_neg c12).trans ((if_neg c13).trans ((if_neg c14).trans ((if_neg c19).trans ((if_neg c20).trans ((if_neg c21).trans ((if_neg c22).trans ((if_neg c23).trans rfl)))))))))))))))))))
                                        exact q_zret X hret rfl dL_isRight_216 (by rw [E]) rfl
                              · skip
                                refine q_iconst (v := 0) X dL_isRight_162 (by decide) ?_
                                have E : Z = 0 := by exact hZ.symm.trans ((if_neg c1).trans ((if_neg c2).trans ((if_neg c3).trans ((if_neg c4).trans ((if_neg c5).trans ((if_neg c6).trans ((if_pos c7).trans ((if_neg c8).trans ((if_neg c9).trans ((if_neg c10).trans ((if_neg c11).trans ((if_neg c12).trans ((if_neg c13).trans ((if_neg c14).trans ((if_pos c19).trans rfl)))))))))))))))
                                exact q_zret X hret rfl dL_isRight_163 (by rw [E]) rfl
              · skip
                refine q_iconst (v := 0) X dL_isRight_74 (by decide) ?_
                have E : Z = 0 := by exact hZ.symm.trans ((if_neg c1).trans ((if_neg c2).trans ((if_neg c3).trans ((if_neg c4).trans ((if_neg c5).trans ((if_neg c6).trans ((if_neg c7).trans rfl)))))))
                exact q_zret X hret rfl dL_isRight_75 (by rw [E]) rfl
def S_L_act (h : Hp) (yy : Int32) : Int32 × Hp := if (yy &&& 15) = 0 then (let h2 : Hp := (S_X9_setAmbient h (S_L_low (yy >>> ((4 : Int32) &&& 31)) 402)).2; ((S_X9_setAmbient h (S_L_low (yy >>> ((4 : Int32) &&& 31)) 402)).1, h2)) else (if (yy &&& 15) = 1 then (let h4 : Hp := (S_X9_setPower h (S_L_low (yy >>> ((4 : Int32) &&& 31)) 102)).2; ((S_X9_setPower h (S_L_low (yy >>> ((4 : Int32) &&& 31)) 102)).1, h4)) else (if (yy &&& 15) = 2 then (let h6 : Hp := (S_X9_setController h ((yy >>> ((4 : Int32) &&& 31)) &&& 1) (S_L_low (yy >>> ((5 : Int32) &&& 31)) 202) (S_L_low (yy >>> ((3 : Int32) &&& 31)) 201) (S_L_low (yy >>> ((6 : Int32) &&& 31)) 101)).2; ((S_X9_setController h ((yy >>> ((4 : Int32) &&& 31)) &&& 1) (S_L_low (yy >>> ((5 : Int32) &&& 31)) 202) (S_L_low (yy >>> ((3 : Int32) &&& 31)) 201) (S_L_low (yy >>> ((6 : Int32) &&& 31)) 101)).1, h6)) else (if (yy &&& 15) = 3 then (let h8 : Hp := (S_X9_setProbe h (1 + (S_L_low (yy >>> ((4 : Int32) &&& 31)) 60)) (S_L_low (yy >>> ((6 : Int32) &&& 31)) 7)).2; ((S_X9_setProbe h (1 + (S_L_low (yy >>> ((4 : Int32) &&& 31)) 60)) (S_L_low (yy >>> ((6 : Int32) &&& 31)) 7)).1, h8)) else (if (yy &&& 15) = 4 then (let h10 : Hp := (S_X9_setCrack h (1500 + (S_L_low (yy >>> ((4 : Int32) &&& 31)) 802)) (1 + (S_L_low (yy >>> ((3 : Int32) &&& 31)) 600))).2; ((S_X9_setCrack h (1500 + (S_L_low (yy >>> ((4 : Int32) &&& 31)) 802)) (1 + (S_L_low (yy >>> ((3 : Int32) &&& 31)) 600))).1, h10)) else (if (yy &&& 15) = 5 then (let h12 : Hp := (S_X9_setFan h (1 + (S_L_low (yy >>> ((4 : Int32) &&& 31)) 51))).2; ((S_X9_setFan h (1 + (S_L_low (yy >>> ((4 : Int32) &&& 31)) 51))).1, h12)) else (if (yy &&& 15) = 6 then (let h14 : Hp := (S_X9_setPoint h ((S_L_low (yy >>> ((4 : Int32) &&& 31)) 60) * 7) (S_L_low (yy >>> ((2 : Int32) &&& 31)) 3001)).2; ((S_X9_setPoint h ((S_L_low (yy >>> ((4 : Int32) &&& 31)) 60) * 7) (S_L_low (yy >>> ((2 : Int32) &&& 31)) 3001)).1, h14)) else (if (yy &&& 15) = 7 then (let h16 : Hp := (S_X9_removePoint h ((S_L_low (yy >>> ((4 : Int32) &&& 31)) 60) * 7)).2; ((S_X9_removePoint h ((S_L_low (yy >>> ((4 : Int32) &&& 31)) 60) * 7)).1, h16)) else (if (yy &&& 15) = 8 then (let h18 : Hp := (S_X9_setRow h ((S_L_low (yy >>> ((4 : Int32) &&& 31)) 31) * 100) ((S_L_low (yy >>> ((3 : Int32) &&& 31)) 40) - 1)).2; ((S_X9_setRow h ((S_L_low (yy >>> ((4 : Int32) &&& 31)) 31) * 100) ((S_L_low (yy >>> ((3 : Int32) &&& 31)) 40) - 1)).1, h18)) else (if (yy &&& 15) = 9 then (let h20 : Hp := (S_X9_charge h (100 + (S_L_low (yy >>> ((4 : Int32) &&& 31)) 902))).2; let m22 : Int32 := if ((S_X9_charge h (100 + (S_L_low (yy >>> ((4 : Int32) &&& 31)) 902))).1) < (-50000) then ((-1)) else (1); (m22, h20)) else (if (yy &&& 15) = 10 then (let h25 : Hp := (S_X9_drop h).2; ((S_X9_drop h).1, h25)) else (if (yy &&& 15) = 11 then (let h27 : Hp := (S_X9_takeAway h).2; let m29 : Int32 := if ((S_X9_takeAway h).1) < (-50000) then ((-1)) else (1); (m29, h27)) else (let h31 : Hp := (S_X9_run h (1 + (S_L_low (yy >>> ((4 : Int32) &&& 31)) 120))).2; let m33 : Int32 := if ((S_X9_run h (1 + (S_L_low (yy >>> ((4 : Int32) &&& 31)) 120))).1) < (-50000) then ((-1)) else (1); (m33, h31)))))))))))))
set_option maxRecDepth 100000 in
set_option maxHeartbeats 4000000 in
theorem c_L_act {G : Geo} {l : Launch} (hG : GOK G) {h : Hp} (yy : Int32) (hK : KT G) : CM G l yL_act cL_act 2 (some .int) 7 191 [.ref (gA G 0 0), .int yy] h ((S_L_act h yy).2) (some (.int ((S_L_act h yy).1))) := by
  obtain ⟨Z, hZ⟩ : ∃ Z, S_L_act h yy = Z := ⟨_, rfl⟩
  rw [hZ]
  refine q_enter hG mf_L_act (Nat.le_of_ble_eq_true rfl) ?_
  intro p e s m below meth c X hret
  have hT_0 : gT G 0 = 0 := hK 0 (by decide)
  have hT_1 : gT G 1 = 1 := hK 1 (by decide)
  have hT_2 : gT G 2 = 2 := hK 2 (by decide)
  have hT_3 : gT G 3 = 3 := hK 3 (by decide)
  have hT_4 : gT G 4 = 3 := hK 4 (by decide)
  have hT_5 : gT G 5 = 5 := hK 5 (by decide)
  have hT_6 : gT G 6 = 2 := hK 6 (by decide)
  have hT_7 : gT G 7 = 6 := hK 7 (by decide)
  have hT_8 : gT G 8 = 7 := hK 8 (by decide)
  have hT_9 : gT G 9 = 3 := hK 9 (by decide)
  have hT_10 : gT G 10 = 8 := hK 10 (by decide)
  refine q_lv (lv2 := [(0, .ref (gA G 0 0)), (1, .int yy)]) rfl ?_
  refine q_iload_n X 1 dL_act_0 rfl ?_
  refine q_bipush (v := 15) X dL_act_1 (by decide) ?_
  refine q_iand X dL_act_3 ?_
  rcases Decidable.em ((yy &&& 15) = 0) with c1 | c1
  · skip
    refine q_tabIn (off := 64) (tgt := 68) X dL_act_4 (by rw [c1]; decide) (by rw [c1]; decide) (by rw [c1]; rfl) (by decide) ?_
    refine q_aload_n X 0 dL_act_68 rfl ?_
    refine q_iload_n X 1 dL_act_69 rfl ?_
    refine q_iconst (v := 4) X dL_act_70 (by decide) ?_
    refine q_ishr X dL_act_71 ?_
    refine q_sipush (v := 402) X dL_act_72 (by decide) ?_
    refine q_callS (h1 := _) (rest := [.ref (gA G 0 0)]) (As := [.int (yy >>> ((4 : Int32) &&& 31)), .int 402]) X (c_L_low (l := l) hG   (yy >>> ((4 : Int32) &&& 31)) 402 (by decide)) mf_L_low ms_L_low lk_L_31 rfl ⟨by decide, by decide⟩ ⟨Nat.le_refl _, Nat.le_refl _⟩ rfl (Nat.le_of_ble_eq_true rfl) dL_act_75 (st2 := [.int (S_L_low (yy >>> ((4 : Int32) &&& 31)) 402), .ref (gA G 0 0)]) rfl ?_
    obtain ⟨h2, e_h2⟩ : ∃ z : Hp, z = (S_X9_setAmbient h (S_L_low (yy >>> ((4 : Int32) &&& 31)) 402)).2 := ⟨_, rfl⟩
    refine q_callV (h1 := _) (rest := []) (As := [.int (S_L_low (yy >>> ((4 : Int32) &&& 31)) 402)]) X (c_X9_setAmbient (l := l) hG   (S_L_low (yy >>> ((4 : Int32) &&& 31)) 402) hK) mf_X9_setAmbient mv_X9_setAmbient cf_X9 rfl (ac_0_0 hT_0) lk_L_36 rfl ⟨by decide, by decide⟩ ⟨Nat.le_refl _, Nat.le_refl _⟩ rfl (Nat.le_of_ble_eq_true rfl) dL_act_78 (st2 := [.int ((S_X9_setAmbient h (S_L_low (yy >>> ((4 : Int32) &&& 31)) 402)).1)]) rfl ?_
    refine q_eq (h2 := h2) (by rw [e_h2]) rfl ?_
    have E : Z = ((S_X9_setAmbient h (S_L_low (yy >>> ((4 : Int32) &&& 31)) 402)).1, h2) := by subst e_h2; exact hZ.symm.trans ((if_pos c1).trans rfl)
    exact q_iret X hret dL_act_81 (by rw [E]) (by rw [E])
  rcases Decidable.em ((yy &&& 15) = 1) with c3 | c3
  · skip
    refine q_tabIn (off := 78) (tgt := 82) X dL_act_4 (by rw [c3]; decide) (by rw [c3]; decide) (by rw [c3]; rfl) (by decide) ?_
    refine q_aload_n X 0 dL_act_82 rfl ?_
    refine q_iload_n X 1 dL_act_83 rfl ?_
    refine q_iconst (v := 4) X dL_act_84 (by decide) ?_
    refine q_ishr X dL_act_85 ?_
    refine q_bipush (v := 102) X dL_act_86 (by decide) ?_
    refine q_callS (h1 := _) (rest := [.ref (gA G 0 0)]) (As := [.int (yy >>> ((4 : Int32) &&& 31)), .int 102]) X (c_L_low (l := l) hG   (yy >>> ((4 : Int32) &&& 31)) 102 (by decide)) mf_L_low ms_L_low lk_L_31 rfl ⟨by decide, by decide⟩ ⟨Nat.le_refl _, Nat.le_refl _⟩ rfl (Nat.le_of_ble_eq_true rfl) dL_act_88 (st2 := [.int (S_L_low (yy >>> ((4 : Int32) &&& 31)) 102), .ref (gA G 0 0)]) rfl ?_
    obtain ⟨h4, e_h4⟩ : ∃ z : Hp, z = (S_X9_setPower h (S_L_low (yy >>> ((4 : Int32) &&& 31)) 102)).2 := ⟨_, rfl⟩
    refine q_callV (h1 := _) (rest := []) (As := [.int (S_L_low (yy >>> ((4 : Int32) &&& 31)) 102)]) X (c_X9_setPower (l := l) hG   (S_L_low (yy >>> ((4 : Int32) &&& 31)) 102) hK) mf_X9_setPower mv_X9_setPower cf_X9 rfl (ac_0_0 hT_0) lk_L_39 rfl ⟨by decide, by decide⟩ ⟨Nat.le_refl _, Nat.le_refl _⟩ rfl (Nat.le_of_ble_eq_true rfl) dL_act_91 (st2 := [.int ((S_X9_setPower h (S_L_low (yy >>> ((4 : Int32) &&& 31)) 102)).1)]) rfl ?_
    refine q_eq (h2 := h4) (by rw [e_h4]) rfl ?_
    have E : Z = ((S_X9_setPower h (S_L_low (yy >>> ((4 : Int32) &&& 31)) 102)).1, h4) := by subst e_h4; exact hZ.symm.trans ((if_neg c1).trans ((if_pos c3).trans rfl))
    exact q_iret X hret dL_act_94 (by rw [E]) (by rw [E])
  rcases Decidable.em ((yy &&& 15) = 2) with c5 | c5
  · skip
    refine q_tabIn (off := 91) (tgt := 95) X dL_act_4 (by rw [c5]; decide) (by rw [c5]; decide) (by rw [c5]; rfl) (by decide) ?_
    refine q_aload_n X 0 dL_act_95 rfl ?_
    refine q_iload_n X 1 dL_act_96 rfl ?_
    refine q_iconst (v := 4) X dL_act_97 (by decide) ?_
    refine q_ishr X dL_act_98 ?_
    refine q_iconst (v := 1) X dL_act_99 (by decide) ?_
    refine q_iand X dL_act_100 ?_
    refine q_iload_n X 1 dL_act_101 rfl ?_
    refine q_iconst (v := 5) X dL_act_102 (by decide) ?_
    refine q_ishr X dL_act_103 ?_
    refine q_sipush (v := 202) X dL_act_104 (by decide) ?_
    refine q_callS (h1 := _) (rest := [.int ((yy >>> ((4 : Int32) &&& 31)) &&& 1), .ref (gA G 0 0)]) (As := [.int (yy >>> ((5 : Int32) &&& 31)), .int 202]) X (c_L_low (l := l) hG   (yy >>> ((5 : Int32) &&& 31)) 202 (by decide)) mf_L_low ms_L_low lk_L_31 rfl ⟨by decide, by decide⟩ ⟨Nat.le_refl _, Nat.le_refl _⟩ rfl (Nat.le_of_ble_eq_true rfl) dL_act_107 (st2 := [.int (S_L_low (yy >>> ((5 : Int32) &&& 31)) 202), .int ((yy >>> ((4 : Int32) &&& 31)) &&& 1), .ref (gA G 0 0)]) rfl ?_
    refine q_iload_n X 1 dL_act_110 rfl ?_
    refine q_iconst (v := 3) X dL_act_111 (by decide) ?_
    refine q_ishr X dL_act_112 ?_
    refine q_sipush (v := 201) X dL_act_113 (by decide) ?_
    refine q_callS (h1 := _) (rest := [.int (S_L_low (yy >>> ((5 : Int32) &&& 31)) 202), .int ((yy >>> ((4 : Int32) &&& 31)) &&& 1), .ref (gA G 0 0)]) (As := [.int (yy >>> ((3 : Int32) &&& 31)), .int 201]) X (c_L_low (l := l) hG   (yy >>> ((3 : Int32) &&& 31)) 201 (by decide)) mf_L_low ms_L_low lk_L_31 rfl ⟨by decide, by decide⟩ ⟨Nat.le_refl _, Nat.le_refl _⟩ rfl (Nat.le_of_ble_eq_true rfl) dL_act_116 (st2 := [.int (S_L_low (yy >>> ((3 : Int32) &&& 31)) 201), .int (S_L_low (yy >>> ((5 : Int32) &&& 31)) 202), .int ((yy >>> ((4 : Int32) &&& 31)) &&& 1), .ref (gA G 0 0)]) rfl ?_
    refine q_iload_n X 1 dL_act_119 rfl ?_
    refine q_bipush (v := 6) X dL_act_120 (by decide) ?_
    refine q_ishr X dL_act_122 ?_
    refine q_bipush (v := 101) X dL_act_123 (by decide) ?_
    refine q_callS (h1 := _) (rest := [.int (S_L_low (yy >>> ((3 : Int32) &&& 31)) 201), .int (S_L_low (yy >>> ((5 : Int32) &&& 31)) 202), .int ((yy >>> ((4 : Int32) &&& 31)) &&& 1), .ref (gA G 0 0)]) (As := [.int (yy >>> ((6 : Int32) &&& 31)), .int 101]) X (c_L_low (l := l) hG   (yy >>> ((6 : Int32) &&& 31)) 101 (by decide)) mf_L_low ms_L_low lk_L_31 rfl ⟨by decide, by decide⟩ ⟨Nat.le_refl _, Nat.le_refl _⟩ rfl (Nat.le_of_ble_eq_true rfl) dL_act_125 (st2 := [.int (S_L_low (yy >>> ((6 : Int32) &&& 31)) 101), .int (S_L_low (yy >>> ((3 : Int32) &&& 31)) 201), .int (S_L_low (yy >>> ((5 : Int32) &&& 31)) 202), .int ((yy >>> ((4 : Int32) &&& 31)) &&& 1), .ref (gA G 0 0)]) rfl ?_
    obtain ⟨h6, e_h6⟩ : ∃ z : Hp, z = (S_X9_setController h ((yy >>> ((4 : Int32) &&& 31)) &&& 1) (S_L_low (yy >>> ((5 : Int32) &&& 31)) 202) (S_L_low (yy >>> ((3 : Int32) &&& 31)) 201) (S_L_low (yy >>> ((6 : Int32) &&& 31)) 101)).2 := ⟨_, rfl⟩
    refine q_callV (h1 := _) (rest := []) (As := [.int ((yy >>> ((4 : Int32) &&& 31)) &&& 1), .int (S_L_low (yy >>> ((5 : Int32) &&& 31)) 202), .int (S_L_low (yy >>> ((3 : Int32) &&& 31)) 201), .int (S_L_low (yy >>> ((6 : Int32) &&& 31)) 101)]) X (c_X9_setController (l := l) hG   ((yy >>> ((4 : Int32) &&& 31)) &&& 1) (S_L_low (yy >>> ((5 : Int32) &&& 31)) 202) (S_L_low (yy >>> ((3 : Int32) &&& 31)) 201) (S_L_low (yy >>> ((6 : Int32) &&& 31)) 101) hK) mf_X9_setController mv_X9_setController cf_X9 rfl (ac_0_0 hT_0) lk_L_42 rfl ⟨by decide, by decide⟩ ⟨Nat.le_refl _, Nat.le_refl _⟩ rfl (Nat.le_of_ble_eq_true rfl) dL_act_128 (st2 := [.int ((S_X9_setController h ((yy >>> ((4 : Int32) &&& 31)) &&& 1) (S_L_low (yy >>> ((5 : Int32) &&& 31)) 202) (S_L_low (yy >>> ((3 : Int32) &&& 31)) 201) (S_L_low (yy >>> ((6 : Int32) &&& 31)) 101)).1)]) rfl ?_
    refine q_eq (h2 := h6) (by rw [e_h6]) rfl ?_
    have E : Z = ((S_X9_setController h ((yy >>> ((4 : Int32) &&& 31)) &&& 1) (S_L_low (yy >>> ((5 : Int32) &&& 31)) 202) (S_L_low (yy >>> ((3 : Int32) &&& 31)) 201) (S_L_low (yy >>> ((6 : Int32) &&& 31)) 101)).1, h6) := by subst e_h6; exact hZ.symm.trans ((if_neg c1).trans ((if_neg c3).trans ((if_pos c5).trans rfl)))
    exact q_iret X hret dL_act_131 (by rw [E]) (by rw [E])
  rcases Decidable.em ((yy &&& 15) = 3) with c7 | c7
  · skip
    refine q_tabIn (off := 128) (tgt := 132) X dL_act_4 (by rw [c7]; decide) (by rw [c7]; decide) (by rw [c7]; rfl) (by decide) ?_
    refine q_aload_n X 0 dL_act_132 rfl ?_
    refine q_iconst (v := 1) X dL_act_133 (by decide) ?_
    refine q_iload_n X 1 dL_act_134 rfl ?_
    refine q_iconst (v := 4) X dL_act_135 (by decide) ?_
    refine q_ishr X dL_act_136 ?_
    refine q_bipush (v := 60) X dL_act_137 (by decide) ?_
    refine q_callS (h1 := _) (rest := [.int 1, .ref (gA G 0 0)]) (As := [.int (yy >>> ((4 : Int32) &&& 31)), .int 60]) X (c_L_low (l := l) hG   (yy >>> ((4 : Int32) &&& 31)) 60 (by decide)) mf_L_low ms_L_low lk_L_31 rfl ⟨by decide, by decide⟩ ⟨Nat.le_refl _, Nat.le_refl _⟩ rfl (Nat.le_of_ble_eq_true rfl) dL_act_139 (st2 := [.int (S_L_low (yy >>> ((4 : Int32) &&& 31)) 60), .int 1, .ref (gA G 0 0)]) rfl ?_
    refine q_iadd X dL_act_142 ?_
    refine q_iload_n X 1 dL_act_143 rfl ?_
    refine q_bipush (v := 6) X dL_act_144 (by decide) ?_
    refine q_ishr X dL_act_146 ?_
    refine q_bipush (v := 7) X dL_act_147 (by decide) ?_
    refine q_callS (h1 := _) (rest := [.int (1 + (S_L_low (yy >>> ((4 : Int32) &&& 31)) 60)), .ref (gA G 0 0)]) (As := [.int (yy >>> ((6 : Int32) &&& 31)), .int 7]) X (c_L_low (l := l) hG   (yy >>> ((6 : Int32) &&& 31)) 7 (by decide)) mf_L_low ms_L_low lk_L_31 rfl ⟨by decide, by decide⟩ ⟨Nat.le_refl _, Nat.le_refl _⟩ rfl (Nat.le_of_ble_eq_true rfl) dL_act_149 (st2 := [.int (S_L_low (yy >>> ((6 : Int32) &&& 31)) 7), .int (1 + (S_L_low (yy >>> ((4 : Int32) &&& 31)) 60)), .ref (gA G 0 0)]) rfl ?_
    obtain ⟨h8, e_h8⟩ : ∃ z : Hp, z = (S_X9_setProbe h (1 + (S_L_low (yy >>> ((4 : Int32) &&& 31)) 60)) (S_L_low (yy >>> ((6 : Int32) &&& 31)) 7)).2 := ⟨_, rfl⟩
    refine q_callV (h1 := _) (rest := []) (As := [.int (1 + (S_L_low (yy >>> ((4 : Int32) &&& 31)) 60)), .int (S_L_low (yy >>> ((6 : Int32) &&& 31)) 7)]) X (c_X9_setProbe (l := l) hG   (1 + (S_L_low (yy >>> ((4 : Int32) &&& 31)) 60)) (S_L_low (yy >>> ((6 : Int32) &&& 31)) 7) hK) mf_X9_setProbe mv_X9_setProbe cf_X9 rfl (ac_0_0 hT_0) lk_L_46 rfl ⟨by decide, by decide⟩ ⟨Nat.le_refl _, Nat.le_refl _⟩ rfl (Nat.le_of_ble_eq_true rfl) dL_act_152 (st2 := [.int ((S_X9_setProbe h (1 + (S_L_low (yy >>> ((4 : Int32) &&& 31)) 60)) (S_L_low (yy >>> ((6 : Int32) &&& 31)) 7)).1)]) rfl ?_
    refine q_eq (h2 := h8) (by rw [e_h8]) rfl ?_
    have E : Z = ((S_X9_setProbe h (1 + (S_L_low (yy >>> ((4 : Int32) &&& 31)) 60)) (S_L_low (yy >>> ((6 : Int32) &&& 31)) 7)).1, h8) := by subst e_h8; exact hZ.symm.trans ((if_neg c1).trans ((if_neg c3).trans ((if_neg c5).trans ((if_pos c7).trans rfl))))
    exact q_iret X hret dL_act_155 (by rw [E]) (by rw [E])
  rcases Decidable.em ((yy &&& 15) = 4) with c9 | c9
  · skip
    refine q_tabIn (off := 152) (tgt := 156) X dL_act_4 (by rw [c9]; decide) (by rw [c9]; decide) (by rw [c9]; rfl) (by decide) ?_
    refine q_aload_n X 0 dL_act_156 rfl ?_
    refine q_sipush (v := 1500) X dL_act_157 (by decide) ?_
    refine q_iload_n X 1 dL_act_160 rfl ?_
    refine q_iconst (v := 4) X dL_act_161 (by decide) ?_
    refine q_ishr X dL_act_162 ?_
    refine q_sipush (v := 802) X dL_act_163 (by decide) ?_
    refine q_callS (h1 := _) (rest := [.int 1500, .ref (gA G 0 0)]) (As := [.int (yy >>> ((4 : Int32) &&& 31)), .int 802]) X (c_L_low (l := l) hG   (yy >>> ((4 : Int32) &&& 31)) 802 (by decide)) mf_L_low ms_L_low lk_L_31 rfl ⟨by decide, by decide⟩ ⟨Nat.le_refl _, Nat.le_refl _⟩ rfl (Nat.le_of_ble_eq_true rfl) dL_act_166 (st2 := [.int (S_L_low (yy >>> ((4 : Int32) &&& 31)) 802), .int 1500, .ref (gA G 0 0)]) rfl ?_
    refine q_iadd X dL_act_169 ?_
    refine q_iconst (v := 1) X dL_act_170 (by decide) ?_
    refine q_iload_n X 1 dL_act_171 rfl ?_
    refine q_iconst (v := 3) X dL_act_172 (by decide) ?_
    refine q_ishr X dL_act_173 ?_
    refine q_sipush (v := 600) X dL_act_174 (by decide) ?_
    refine q_callS (h1 := _) (rest := [.int 1, .int (1500 + (S_L_low (yy >>> ((4 : Int32) &&& 31)) 802)), .ref (gA G 0 0)]) (As := [.int (yy >>> ((3 : Int32) &&& 31)), .int 600]) X (c_L_low (l := l) hG   (yy >>> ((3 : Int32) &&& 31)) 600 (by decide)) mf_L_low ms_L_low lk_L_31 rfl ⟨by decide, by decide⟩ ⟨Nat.le_refl _, Nat.le_refl _⟩ rfl (Nat.le_of_ble_eq_true rfl) dL_act_177 (st2 := [.int (S_L_low (yy >>> ((3 : Int32) &&& 31)) 600), .int 1, .int (1500 + (S_L_low (yy >>> ((4 : Int32) &&& 31)) 802)), .ref (gA G 0 0)]) rfl ?_
    refine q_iadd X dL_act_180 ?_
    obtain ⟨h10, e_h10⟩ : ∃ z : Hp, z = (S_X9_setCrack h (1500 + (S_L_low (yy >>> ((4 : Int32) &&& 31)) 802)) (1 + (S_L_low (yy >>> ((3 : Int32) &&& 31)) 600))).2 := ⟨_, rfl⟩
    refine q_callV (h1 := _) (rest := []) (As := [.int (1500 + (S_L_low (yy >>> ((4 : Int32) &&& 31)) 802)), .int (1 + (S_L_low (yy >>> ((3 : Int32) &&& 31)) 600))]) X (c_X9_setCrack (l := l) hG   (1500 + (S_L_low (yy >>> ((4 : Int32) &&& 31)) 802)) (1 + (S_L_low (yy >>> ((3 : Int32) &&& 31)) 600)) hK) mf_X9_setCrack mv_X9_setCrack cf_X9 rfl (ac_0_0 hT_0) lk_L_49 rfl ⟨by decide, by decide⟩ ⟨Nat.le_refl _, Nat.le_refl _⟩ rfl (Nat.le_of_ble_eq_true rfl) dL_act_181 (st2 := [.int ((S_X9_setCrack h (1500 + (S_L_low (yy >>> ((4 : Int32) &&& 31)) 802)) (1 + (S_L_low (yy >>> ((3 : Int32) &&& 31)) 600))).1)]) rfl ?_
    refine q_eq (h2 := h10) (by rw [e_h10]) rfl ?_
    have E : Z = ((S_X9_setCrack h (1500 + (S_L_low (yy >>> ((4 : Int32) &&& 31)) 802)) (1 + (S_L_low (yy >>> ((3 : Int32) &&& 31)) 600))).1, h10) := by subst e_h10; exact hZ.symm.trans ((if_neg c1).trans ((if_neg c3).trans ((if_neg c5).trans ((if_neg c7).trans ((if_pos c9).trans rfl)))))
    exact q_iret X hret dL_act_184 (by rw [E]) (by rw [E])
  rcases Decidable.em ((yy &&& 15) = 5) with c11 | c11
  · skip
    refine q_tabIn (off := 181) (tgt := 185) X dL_act_4 (by rw [c11]; decide) (by rw [c11]; decide) (by rw [c11]; rfl) (by decide) ?_
    refine q_aload_n X 0 dL_act_185 rfl ?_
    refine q_iconst (v := 1) X dL_act_186 (by decide) ?_
    refine q_iload_n X 1 dL_act_187 rfl ?_
    refine q_iconst (v := 4) X dL_act_188 (by decide) ?_
    refine q_ishr X dL_act_189 ?_
    refine q_bipush (v := 51) X dL_act_190 (by decide) ?_
    refine q_callS (h1 := _) (rest := [.int 1, .ref (gA G 0 0)]) (As := [.int (yy >>> ((4 : Int32) &&& 31)), .int 51]) X (c_L_low (l := l) hG   (yy >>> ((4 : Int32) &&& 31)) 51 (by decide)) mf_L_low ms_L_low lk_L_31 rfl ⟨by decide, by decide⟩ ⟨Nat.le_refl _, Nat.le_refl _⟩ rfl (Nat.le_of_ble_eq_true rfl) dL_act_192 (st2 := [.int (S_L_low (yy >>> ((4 : Int32) &&& 31)) 51), .int 1, .ref (gA G 0 0)]) rfl ?_
    refine q_iadd X dL_act_195 ?_
    obtain ⟨h12, e_h12⟩ : ∃ z : Hp, z = (S_X9_setFan h (1 + (S_L_low (yy >>> ((4 : Int32) &&& 31)) 51))).2 := ⟨_, rfl⟩
    refine q_callV (h1 := _) (rest := []) (As := [.int (1 + (S_L_low (yy >>> ((4 : Int32) &&& 31)) 51))]) X (c_X9_setFan (l := l) hG   (1 + (S_L_low (yy >>> ((4 : Int32) &&& 31)) 51)) hK) mf_X9_setFan mv_X9_setFan cf_X9 rfl (ac_0_0 hT_0) lk_L_52 rfl ⟨by decide, by decide⟩ ⟨Nat.le_refl _, Nat.le_refl _⟩ rfl (Nat.le_of_ble_eq_true rfl) dL_act_196 (st2 := [.int ((S_X9_setFan h (1 + (S_L_low (yy >>> ((4 : Int32) &&& 31)) 51))).1)]) rfl ?_
    refine q_eq (h2 := h12) (by rw [e_h12]) rfl ?_
    have E : Z = ((S_X9_setFan h (1 + (S_L_low (yy >>> ((4 : Int32) &&& 31)) 51))).1, h12) := by subst e_h12; exact hZ.symm.trans ((if_neg c1).trans ((if_neg c3).trans ((if_neg c5).trans ((if_neg c7).trans ((if_neg c9).trans ((if_pos c11).trans rfl))))))
    exact q_iret X hret dL_act_199 (by rw [E]) (by rw [E])
  rcases Decidable.em ((yy &&& 15) = 6) with c13 | c13
  · skip
    refine q_tabIn (off := 196) (tgt := 200) X dL_act_4 (by rw [c13]; decide) (by rw [c13]; decide) (by rw [c13]; rfl) (by decide) ?_
    refine q_aload_n X 0 dL_act_200 rfl ?_
    refine q_iload_n X 1 dL_act_201 rfl ?_
    refine q_iconst (v := 4) X dL_act_202 (by decide) ?_
    refine q_ishr X dL_act_203 ?_
    refine q_bipush (v := 60) X dL_act_204 (by decide) ?_
    refine q_callS (h1 := _) (rest := [.ref (gA G 0 0)]) (As := [.int (yy >>> ((4 : Int32) &&& 31)), .int 60]) X (c_L_low (l := l) hG   (yy >>> ((4 : Int32) &&& 31)) 60 (by decide)) mf_L_low ms_L_low lk_L_31 rfl ⟨by decide, by decide⟩ ⟨Nat.le_refl _, Nat.le_refl _⟩ rfl (Nat.le_of_ble_eq_true rfl) dL_act_206 (st2 := [.int (S_L_low (yy >>> ((4 : Int32) &&& 31)) 60), .ref (gA G 0 0)]) rfl ?_
    refine q_bipush (v := 7) X dL_act_209 (by decide) ?_
    refine q_imul X dL_act_211 ?_
    refine q_iload_n X 1 dL_act_212 rfl ?_
    refine q_iconst (v := 2) X dL_act_213 (by decide) ?_
    refine q_ishr X dL_act_214 ?_
    refine q_sipush (v := 3001) X dL_act_215 (by decide) ?_
    refine q_callS (h1 := _) (rest := [.int ((S_L_low (yy >>> ((4 : Int32) &&& 31)) 60) * 7), .ref (gA G 0 0)]) (As := [.int (yy >>> ((2 : Int32) &&& 31)), .int 3001]) X (c_L_low (l := l) hG   (yy >>> ((2 : Int32) &&& 31)) 3001 (by decide)) mf_L_low ms_L_low lk_L_31 rfl ⟨by decide, by decide⟩ ⟨Nat.le_refl _, Nat.le_refl _⟩ rfl (Nat.le_of_ble_eq_true rfl) dL_act_218 (st2 := [.int (S_L_low (yy >>> ((2 : Int32) &&& 31)) 3001), .int ((S_L_low (yy >>> ((4 : Int32) &&& 31)) 60) * 7), .ref (gA G 0 0)]) rfl ?_
    obtain ⟨h14, e_h14⟩ : ∃ z : Hp, z = (S_X9_setPoint h ((S_L_low (yy >>> ((4 : Int32) &&& 31)) 60) * 7) (S_L_low (yy >>> ((2 : Int32) &&& 31)) 3001)).2 := ⟨_, rfl⟩
    refine q_callV (h1 := _) (rest := []) (As := [.int ((S_L_low (yy >>> ((4 : Int32) &&& 31)) 60) * 7), .int (S_L_low (yy >>> ((2 : Int32) &&& 31)) 3001)]) X (c_X9_setPoint (l := l) hG   ((S_L_low (yy >>> ((4 : Int32) &&& 31)) 60) * 7) (S_L_low (yy >>> ((2 : Int32) &&& 31)) 3001) hK) mf_X9_setPoint mv_X9_setPoint cf_X9 rfl (ac_0_0 hT_0) lk_L_55 rfl ⟨by decide, by decide⟩ ⟨Nat.le_refl _, Nat.le_refl _⟩ rfl (Nat.le_of_ble_eq_true rfl) dL_act_221 (st2 := [.int ((S_X9_setPoint h ((S_L_low (yy >>> ((4 : Int32) &&& 31)) 60) * 7) (S_L_low (yy >>> ((2 : Int32) &&& 31)) 3001)).1)]) rfl ?_
    refine q_eq (h2 := h14) (by rw [e_h14]) rfl ?_
    have E : Z = ((S_X9_setPoint h ((S_L_low (yy >>> ((4 : Int32) &&& 31)) 60) * 7) (S_L_low (yy >>> ((2 : Int32) &&& 31)) 3001)).1, h14) := by subst e_h14; exact hZ.symm.trans ((if_neg c1).trans ((if_neg c3).trans ((if_neg c5).trans ((if_neg c7).trans ((if_neg c9).trans ((if_neg c11).trans ((if_pos c13).trans rfl)))))))
    exact q_iret X hret dL_act_224 (by rw [E]) (by rw [E])
  rcases Decidable.em ((yy &&& 15) = 7) with c15 | c15
  · skip
    refine q_tabIn (off := 221) (tgt := 225) X dL_act_4 (by rw [c15]; decide) (by rw [c15]; decide) (by rw [c15]; rfl) (by decide) ?_
    refine q_aload_n X 0 dL_act_225 rfl ?_
    refine q_iload_n X 1 dL_act_226 rfl ?_
    refine q_iconst (v := 4) X dL_act_227 (by decide) ?_
    refine q_ishr X dL_act_228 ?_
    refine q_bipush (v := 60) X dL_act_229 (by decide) ?_
    refine q_callS (h1 := _) (rest := [.ref (gA G 0 0)]) (As := [.int (yy >>> ((4 : Int32) &&& 31)), .int 60]) X (c_L_low (l := l) hG   (yy >>> ((4 : Int32) &&& 31)) 60 (by decide)) mf_L_low ms_L_low lk_L_31 rfl ⟨by decide, by decide⟩ ⟨Nat.le_refl _, Nat.le_refl _⟩ rfl (Nat.le_of_ble_eq_true rfl) dL_act_231 (st2 := [.int (S_L_low (yy >>> ((4 : Int32) &&& 31)) 60), .ref (gA G 0 0)]) rfl ?_
    refine q_bipush (v := 7) X dL_act_234 (by decide) ?_
    refine q_imul X dL_act_236 ?_
    obtain ⟨h16, e_h16⟩ : ∃ z : Hp, z = (S_X9_removePoint h ((S_L_low (yy >>> ((4 : Int32) &&& 31)) 60) * 7)).2 := ⟨_, rfl⟩
    refine q_callV (h1 := _) (rest := []) (As := [.int ((S_L_low (yy >>> ((4 : Int32) &&& 31)) 60) * 7)]) X (c_X9_removePoint (l := l) hG   ((S_L_low (yy >>> ((4 : Int32) &&& 31)) 60) * 7) hK) mf_X9_removePoint mv_X9_removePoint cf_X9 rfl (ac_0_0 hT_0) lk_L_58 rfl ⟨by decide, by decide⟩ ⟨Nat.le_refl _, Nat.le_refl _⟩ rfl (Nat.le_of_ble_eq_true rfl) dL_act_237 (st2 := [.int ((S_X9_removePoint h ((S_L_low (yy >>> ((4 : Int32) &&& 31)) 60) * 7)).1)]) rfl ?_
    refine q_eq (h2 := h16) (by rw [e_h16]) rfl ?_
    have E : Z = ((S_X9_removePoint h ((S_L_low (yy >>> ((4 : Int32) &&& 31)) 60) * 7)).1, h16) := by subst e_h16; exact hZ.symm.trans ((if_neg c1).trans ((if_neg c3).trans ((if_neg c5).trans ((if_neg c7).trans ((if_neg c9).trans ((if_neg c11).trans ((if_neg c13).trans ((if_pos c15).trans rfl))))))))
    exact q_iret X hret dL_act_240 (by rw [E]) (by rw [E])
  rcases Decidable.em ((yy &&& 15) = 8) with c17 | c17
  · skip
    refine q_tabIn (off := 237) (tgt := 241) X dL_act_4 (by rw [c17]; decide) (by rw [c17]; decide) (by rw [c17]; rfl) (by decide) ?_
    refine q_aload_n X 0 dL_act_241 rfl ?_
    refine q_iload_n X 1 dL_act_242 rfl ?_
    refine q_iconst (v := 4) X dL_act_243 (by decide) ?_
    refine q_ishr X dL_act_244 ?_
    refine q_bipush (v := 31) X dL_act_245 (by decide) ?_
    refine q_callS (h1 := _) (rest := [.ref (gA G 0 0)]) (As := [.int (yy >>> ((4 : Int32) &&& 31)), .int 31]) X (c_L_low (l := l) hG   (yy >>> ((4 : Int32) &&& 31)) 31 (by decide)) mf_L_low ms_L_low lk_L_31 rfl ⟨by decide, by decide⟩ ⟨Nat.le_refl _, Nat.le_refl _⟩ rfl (Nat.le_of_ble_eq_true rfl) dL_act_247 (st2 := [.int (S_L_low (yy >>> ((4 : Int32) &&& 31)) 31), .ref (gA G 0 0)]) rfl ?_
    refine q_bipush (v := 100) X dL_act_250 (by decide) ?_
    refine q_imul X dL_act_252 ?_
    refine q_iload_n X 1 dL_act_253 rfl ?_
    refine q_iconst (v := 3) X dL_act_254 (by decide) ?_
    refine q_ishr X dL_act_255 ?_
    refine q_bipush (v := 40) X dL_act_256 (by decide) ?_
    refine q_callS (h1 := _) (rest := [.int ((S_L_low (yy >>> ((4 : Int32) &&& 31)) 31) * 100), .ref (gA G 0 0)]) (As := [.int (yy >>> ((3 : Int32) &&& 31)), .int 40]) X (c_L_low (l := l) hG   (yy >>> ((3 : Int32) &&& 31)) 40 (by decide)) mf_L_low ms_L_low lk_L_31 rfl ⟨by decide, by decide⟩ ⟨Nat.le_refl _, Nat.le_refl _⟩ rfl (Nat.le_of_ble_eq_true rfl) dL_act_258 (st2 := [.int (S_L_low (yy >>> ((3 : Int32) &&& 31)) 40), .int ((S_L_low (yy >>> ((4 : Int32) &&& 31)) 31) * 100), .ref (gA G 0 0)]) rfl ?_
    refine q_iconst (v := 1) X dL_act_261 (by decide) ?_
    refine q_isub X dL_act_262 ?_
    obtain ⟨h18, e_h18⟩ : ∃ z : Hp, z = (S_X9_setRow h ((S_L_low (yy >>> ((4 : Int32) &&& 31)) 31) * 100) ((S_L_low (yy >>> ((3 : Int32) &&& 31)) 40) - 1)).2 := ⟨_, rfl⟩
    refine q_callV (h1 := _) (rest := []) (As := [.int ((S_L_low (yy >>> ((4 : Int32) &&& 31)) 31) * 100), .int ((S_L_low (yy >>> ((3 : Int32) &&& 31)) 40) - 1)]) X (c_X9_setRow (l := l) hG   ((S_L_low (yy >>> ((4 : Int32) &&& 31)) 31) * 100) ((S_L_low (yy >>> ((3 : Int32) &&& 31)) 40) - 1) hK) mf_X9_setRow mv_X9_setRow cf_X9 rfl (ac_0_0 hT_0) lk_L_61 rfl ⟨by decide, by decide⟩ ⟨Nat.le_refl _, Nat.le_refl _⟩ rfl (Nat.le_of_ble_eq_true rfl) dL_act_263 (st2 := [.int ((S_X9_setRow h ((S_L_low (yy >>> ((4 : Int32) &&& 31)) 31) * 100) ((S_L_low (yy >>> ((3 : Int32) &&& 31)) 40) - 1)).1)]) rfl ?_
    refine q_eq (h2 := h18) (by rw [e_h18]) rfl ?_
    have E : Z = ((S_X9_setRow h ((S_L_low (yy >>> ((4 : Int32) &&& 31)) 31) * 100) ((S_L_low (yy >>> ((3 : Int32) &&& 31)) 40) - 1)).1, h18) := by subst e_h18; exact hZ.symm.trans ((if_neg c1).trans ((if_neg c3).trans ((if_neg c5).trans ((if_neg c7).trans ((if_neg c9).trans ((if_neg c11).trans ((if_neg c13).trans ((if_neg c15).trans ((if_pos c17).trans rfl)))))))))
    exact q_iret X hret dL_act_266 (by rw [E]) (by rw [E])
  rcases Decidable.em ((yy &&& 15) = 9) with c19 | c19
  · skip
    refine q_tabIn (off := 263) (tgt := 267) X dL_act_4 (by rw [c19]; decide) (by rw [c19]; decide) (by rw [c19]; rfl) (by decide) ?_
    refine q_aload_n X 0 dL_act_267 rfl ?_
    refine q_bipush (v := 100) X dL_act_268 (by decide) ?_
    refine q_iload_n X 1 dL_act_270 rfl ?_
    refine q_iconst (v := 4) X dL_act_271 (by decide) ?_
    refine q_ishr X dL_act_272 ?_
    refine q_sipush (v := 902) X dL_act_273 (by decide) ?_
    refine q_callS (h1 := _) (rest := [.int 100, .ref (gA G 0 0)]) (As := [.int (yy >>> ((4 : Int32) &&& 31)), .int 902]) X (c_L_low (l := l) hG   (yy >>> ((4 : Int32) &&& 31)) 902 (by decide)) mf_L_low ms_L_low lk_L_31 rfl ⟨by decide, by decide⟩ ⟨Nat.le_refl _, Nat.le_refl _⟩ rfl (Nat.le_of_ble_eq_true rfl) dL_act_276 (st2 := [.int (S_L_low (yy >>> ((4 : Int32) &&& 31)) 902), .int 100, .ref (gA G 0 0)]) rfl ?_
    refine q_iadd X dL_act_279 ?_
    obtain ⟨h20, e_h20⟩ : ∃ z : Hp, z = (S_X9_charge h (100 + (S_L_low (yy >>> ((4 : Int32) &&& 31)) 902))).2 := ⟨_, rfl⟩
    refine q_callV (h1 := _) (rest := []) (As := [.int (100 + (S_L_low (yy >>> ((4 : Int32) &&& 31)) 902))]) X (c_X9_charge (l := l) hG   (100 + (S_L_low (yy >>> ((4 : Int32) &&& 31)) 902)) hK) mf_X9_charge mv_X9_charge cf_X9 rfl (ac_0_0 hT_0) lk_L_64 rfl ⟨by decide, by decide⟩ ⟨Nat.le_refl _, Nat.le_refl _⟩ rfl (Nat.le_of_ble_eq_true rfl) dL_act_280 (st2 := [.int ((S_X9_charge h (100 + (S_L_low (yy >>> ((4 : Int32) &&& 31)) 902))).1)]) rfl ?_
    refine q_eq (h2 := h20) (by rw [e_h20]) rfl ?_
    refine q_ldc X kc_L_67 dL_act_283 ?_
    suffices hJ23 : ∀ (m22 : Int32), m22 = (if ((S_X9_charge h (100 + (S_L_low (yy >>> ((4 : Int32) &&& 31)) 902))).1) < (-50000) then ((-1)) else (1)) → VV G (AA G) p l e { frames := 7, cells := 0, slots := 0, locals := 191 } s m ([.ref (gA G 0 0), .int yy] : List Value).toArray below meth c 0 0 (MQ below (QC G Z.2 (some (.int Z.1))) ([.ref (gA G 0 0), .int yy] : List Value).toArray s 0 0 (AA G)) 2 h20 293 [(0, .ref (gA G 0 0)), (1, .int yy)] [.int m22] by
      refine q_icmp_lt (tgt := 292) X dL_act_285 (by decide) (fun c21 => ?_) (fun c21 => ?_)
      · skip
        refine q_iconst (v := (-1)) X dL_act_292 (by decide) ?_
        refine q_sub (lv2 := [(0, .ref (gA G 0 0)), (1, .int yy)]) [0, 1] rfl ?_
        exact hJ23 (-1) (by exact ((if_pos c21).trans rfl).symm)
      · skip
        refine q_iconst (v := 1) X dL_act_288 (by decide) ?_
        refine q_goto (tgt := 293) X dL_act_289 (by decide) ?_
        refine q_sub (lv2 := [(0, .ref (gA G 0 0)), (1, .int yy)]) [0, 1] rfl ?_
        exact hJ23 1 (by exact ((if_neg c21).trans rfl).symm)
    intro m22 e_m22
    have E : Z = (m22, h20) := by subst e_m22; subst e_h20; exact hZ.symm.trans ((if_neg c1).trans ((if_neg c3).trans ((if_neg c5).trans ((if_neg c7).trans ((if_neg c9).trans ((if_neg c11).trans ((if_neg c13).trans ((if_neg c15).trans ((if_neg c17).trans ((if_pos c19).trans rfl))))))))))
    exact q_iret X hret dL_act_293 (by rw [E]) (by rw [E])
  rcases Decidable.em ((yy &&& 15) = 10) with c24 | c24
  · skip
    refine q_tabIn (off := 290) (tgt := 294) X dL_act_4 (by rw [c24]; decide) (by rw [c24]; decide) (by rw [c24]; rfl) (by decide) ?_
    refine q_aload_n X 0 dL_act_294 rfl ?_
    obtain ⟨h25, e_h25⟩ : ∃ z : Hp, z = (S_X9_drop h).2 := ⟨_, rfl⟩
    refine q_callV (h1 := _) (rest := []) (As := []) X (c_X9_drop (l := l) hG    hK) mf_X9_drop mv_X9_drop cf_X9 rfl (ac_0_0 hT_0) lk_L_68 rfl ⟨by decide, by decide⟩ ⟨Nat.le_refl _, Nat.le_refl _⟩ rfl (Nat.le_of_ble_eq_true rfl) dL_act_295 (st2 := [.int ((S_X9_drop h).1)]) rfl ?_
    refine q_eq (h2 := h25) (by rw [e_h25]) rfl ?_
    have E : Z = ((S_X9_drop h).1, h25) := by subst e_h25; exact hZ.symm.trans ((if_neg c1).trans ((if_neg c3).trans ((if_neg c5).trans ((if_neg c7).trans ((if_neg c9).trans ((if_neg c11).trans ((if_neg c13).trans ((if_neg c15).trans ((if_neg c17).trans ((if_neg c19).trans ((if_pos c24).trans rfl)))))))))))
    exact q_iret X hret dL_act_298 (by rw [E]) (by rw [E])
  rcases Decidable.em ((yy &&& 15) = 11) with c26 | c26
  · skip
    refine q_tabIn (off := 295) (tgt := 299) X dL_act_4 (by rw [c26]; decide) (by rw [c26]; decide) (by rw [c26]; rfl) (by decide) ?_
    refine q_aload_n X 0 dL_act_299 rfl ?_
    obtain ⟨h27, e_h27⟩ : ∃ z : Hp, z = (S_X9_takeAway h).2 := ⟨_, rfl⟩
    refine q_callV (h1 := _) (rest := []) (As := []) X (c_X9_takeAway (l := l) hG    hK) mf_X9_takeAway mv_X9_takeAway cf_X9 rfl (ac_0_0 hT_0) lk_L_72 rfl ⟨by decide, by decide⟩ ⟨Nat.le_refl _, Nat.le_refl _⟩ rfl (Nat.le_of_ble_eq_true rfl) dL_act_300 (st2 := [.int ((S_X9_takeAway h).1)]) rfl ?_
    refine q_eq (h2 := h27) (by rw [e_h27]) rfl ?_
    refine q_ldc X kc_L_67 dL_act_303 ?_
    suffices hJ30 : ∀ (m29 : Int32), m29 = (if ((S_X9_takeAway h).1) < (-50000) then ((-1)) else (1)) → VV G (AA G) p l e { frames := 7, cells := 0, slots := 0, locals := 191 } s m ([.ref (gA G 0 0), .int yy] : List Value).toArray below meth c 0 0 (MQ below (QC G Z.2 (some (.int Z.1))) ([.ref (gA G 0 0), .int yy] : List Value).toArray s 0 0 (AA G)) 2 h27 313 [(0, .ref (gA G 0 0)), (1, .int yy)] [.int m29] by
      refine q_icmp_lt (tgt := 312) X dL_act_305 (by decide) (fun c28 => ?_) (fun c28 => ?_)
      · skip
        refine q_iconst (v := (-1)) X dL_act_312 (by decide) ?_
        refine q_sub (lv2 := [(0, .ref (gA G 0 0)), (1, .int yy)]) [0, 1] rfl ?_
        exact hJ30 (-1) (by exact ((if_pos c28).trans rfl).symm)
      · skip
        refine q_iconst (v := 1) X dL_act_308 (by decide) ?_
        refine q_goto (tgt := 313) X dL_act_309 (by decide) ?_
        refine q_sub (lv2 := [(0, .ref (gA G 0 0)), (1, .int yy)]) [0, 1] rfl ?_
        exact hJ30 1 (by exact ((if_neg c28).trans rfl).symm)
    intro m29 e_m29
    have E : Z = (m29, h27) := by subst e_m29; subst e_h27; exact hZ.symm.trans ((if_neg c1).trans ((if_neg c3).trans ((if_neg c5).trans ((if_neg c7).trans ((if_neg c9).trans ((if_neg c11).trans ((if_neg c13).trans ((if_neg c15).trans ((if_neg c17).trans ((if_neg c19).trans ((if_neg c24).trans ((if_pos c26).trans rfl))))))))))))
    exact q_iret X hret dL_act_313 (by rw [E]) (by rw [E])
  refine q_tabOut (tgt := 314) X dL_act_4 (by have zc1 := lv_neT c1 (a := 0) (by decide); have zc3 := lv_neT c3 (a := 1) (by decide); have zc5 := lv_neT c5 (a := 2) (by decide); have zc7 := lv_neT c7 (a := 3) (by decide); have zc9 := lv_neT c9 (a := 4) (by decide); have zc11 := lv_neT c11 (a := 5) (by decide); have zc13 := lv_neT c13 (a := 6) (by decide); have zc15 := lv_neT c15 (a := 7) (by decide); have zc17 := lv_neT c17 (a := 8) (by decide); have zc19 := lv_neT c19 (a := 9) (by decide); have zc24 := lv_neT c24 (a := 10) (by decide); have zc26 := lv_neT c26 (a := 11) (by decide); omega) (by decide) ?_
  refine q_aload_n X 0 dL_act_314 rfl ?_
  refine q_iconst (v := 1) X dL_act_315 (by decide) ?_
  refine q_iload_n X 1 dL_act_316 rfl ?_
  refine q_iconst (v := 4) X dL_act_317 (by decide) ?_
  refine q_ishr X dL_act_318 ?_
  refine q_bipush (v := 120) X dL_act_319 (by decide) ?_
  refine q_callS (h1 := _) (rest := [.int 1, .ref (gA G 0 0)]) (As := [.int (yy >>> ((4 : Int32) &&& 31)), .int 120]) X (c_L_low (l := l) hG   (yy >>> ((4 : Int32) &&& 31)) 120 (by decide)) mf_L_low ms_L_low lk_L_31 rfl ⟨by decide, by decide⟩ ⟨Nat.le_refl _, Nat.le_refl _⟩ rfl (Nat.le_of_ble_eq_true rfl) dL_act_321 (st2 := [.int (S_L_low (yy >>> ((4 : Int32) &&& 31)) 120), .int 1, .ref (gA G 0 0)]) rfl ?_
  refine q_iadd X dL_act_324 ?_
  obtain ⟨h31, e_h31⟩ : ∃ z : Hp, z = (S_X9_run h (1 + (S_L_low (yy >>> ((4 : Int32) &&& 31)) 120))).2 := ⟨_, rfl⟩
  refine q_callV (h1 := _) (rest := []) (As := [.int (1 + (S_L_low (yy >>> ((4 : Int32) &&& 31)) 120))]) X (c_X9_run (l := l) hG   (1 + (S_L_low (yy >>> ((4 : Int32) &&& 31)) 120)) hK) mf_X9_run mv_X9_run cf_X9 rfl (ac_0_0 hT_0) lk_L_75 rfl ⟨by decide, by decide⟩ ⟨Nat.le_refl _, Nat.le_refl _⟩ rfl (Nat.le_of_ble_eq_true rfl) dL_act_325 (st2 := [.int ((S_X9_run h (1 + (S_L_low (yy >>> ((4 : Int32) &&& 31)) 120))).1)]) rfl ?_
  refine q_eq (h2 := h31) (by rw [e_h31]) rfl ?_
  refine q_ldc X kc_L_67 dL_act_328 ?_
  suffices hJ34 : ∀ (m33 : Int32), m33 = (if ((S_X9_run h (1 + (S_L_low (yy >>> ((4 : Int32) &&& 31)) 120))).1) < (-50000) then ((-1)) else (1)) → VV G (AA G) p l e { frames := 7, cells := 0, slots := 0, locals := 191 } s m ([.ref (gA G 0 0), .int yy] : List Value).toArray below meth c 0 0 (MQ below (QC G Z.2 (some (.int Z.1))) ([.ref (gA G 0 0), .int yy] : List Value).toArray s 0 0 (AA G)) 2 h31 338 [(0, .ref (gA G 0 0)), (1, .int yy)] [.int m33] by
    refine q_icmp_lt (tgt := 337) X dL_act_330 (by decide) (fun c32 => ?_) (fun c32 => ?_)
    · skip
      refine q_iconst (v := (-1)) X dL_act_337 (by decide) ?_
      refine q_sub (lv2 := [(0, .ref (gA G 0 0)), (1, .int yy)]) [0, 1] rfl ?_
      exact hJ34 (-1) (by exact ((if_pos c32).trans rfl).symm)
    · skip
      refine q_iconst (v := 1) X dL_act_333 (by decide) ?_
      refine q_goto (tgt := 338) X dL_act_334 (by decide) ?_
      refine q_sub (lv2 := [(0, .ref (gA G 0 0)), (1, .int yy)]) [0, 1] rfl ?_
      exact hJ34 1 (by exact ((if_neg c32).trans rfl).symm)
  intro m33 e_m33
  have E : Z = (m33, h31) := by subst e_m33; subst e_h31; exact hZ.symm.trans ((if_neg c1).trans ((if_neg c3).trans ((if_neg c5).trans ((if_neg c7).trans ((if_neg c9).trans ((if_neg c11).trans ((if_neg c13).trans ((if_neg c15).trans ((if_neg c17).trans ((if_neg c19).trans ((if_neg c24).trans ((if_neg c26).trans rfl))))))))))))
  exact q_iret X hret dL_act_338 (by rw [E]) (by rw [E])
