/-! CALLS over the arena, a method's entry and its ends -/
section QS
variable {G : Geo} {A : Nat → Prop} {p : Program} {l : Launch} {e : Env} {R : Room} {s : State} {m : MethodId} {args : Array Value} {below : List Frame} {meth : Method} {c : Code} {cells slots : Nat} {Q : State → Prop} {nL : Nat}
variable {own : String} {cc : ByteArray} {h : Hp} {pc : Nat} {lv : List (Nat × Value)} {st : List Value}
theorem PC.blind {G : Geo} {h : Hp} {av : List Value} : FrameBlind (va_Pc av (PC G h)) := fun a U g mk q => ⟨q.1, q.2.1.calling g mk a, q.2.2⟩
theorem q_after (X : CX G A p s m meth c own cc nL) {st0 rest : List Value} {h1 : Hp} {r : Option Value} {a : Array Value} {H : Heap} {locs : List Loc} {ls : Array Slot} (hr : va_Run p l e R s m args below meth c H locs cells slots 0 0 (F0 m pc ls st0) rest (QC G h1 r a) (AA G)) (hS : va_S A s.heap H locs) (hl : lv_has ls nL lv) (k : VV G A p l e R s m args below meth c cells slots Q nL h1 (pc + 3) lv (r.toList ++ rest)) : W p l e R s m args below meth c H locs cells slots Q (F0 m pc ls st0) := by
  have hf : ∀ q, AA G q → A q := fun q hq => by
    obtain ⟨g, j, h1, rfl⟩ := hq
    exact X.2.2.2.2.2.2.1 g j h1
  intro T hT Y
  obtain ⟨v, st₀, t, T', L, h0, X', hL, e1, e2, ⟨hv, hP1, hz, hk⟩, st⟩ := hr T hT Y
  cases hv
  rw [h0] at hz hk
  obtain ⟨t2, a1, b1⟩ := k T'.heap (locs ++ L) ls (by rw [e1]; exact hP1)
    ⟨Nat.le_trans hS.1 (by rw [e1]; exact hz), fun q h1 h2 => by rw [e1, hk q (Nat.lt_of_lt_of_le h1 hS.1) (fun z => h2 (hf q z))]; exact hS.2.1 q h1 h2, fun q hq => by
      rcases List.mem_append.mp hq with h | h
      · exact hS.2.2 q h
      · exact hf _ (hL q h)⟩ hl T' rfl X'
  exact ⟨t2, st t2 a1, b1⟩
theorem q_back (X : CX G A p s m meth c own cc nL) {y : MethodName} {bytes : ByteArray} {maxL fr lo n idx : Nat} {ret : Option FieldType} (hM : MF y bytes maxL ret n) (hw : Cond.methodLink own idx y ∈ lw_tbl) (hR : fr + 1 ≤ R.frames ∧ 8 + (maxL + 11) + lo ≤ R.locals) : CallB R s args own idx y bytes maxL ret [.code y bytes maxL ret] { frames := fr, cells := 0, slots := 0, locals := lo } 0 0 n := by
  have U := fun (w : Cond) (a : w ∈ lw_tbl) (b : gw w = true) => X.2.2.2.2.1.use (args := args) a b
  refine ⟨rfl, rfl, hR.1, hR.2, fun w h a' U' hW => ?_, List.mem_singleton.mpr rfl, U _ hM.1 rfl, U _ hM.2.1 rfl, hM.2.2.1, fun sig h => ?_, U _ hw rfl⟩
  · rw [List.mem_singleton.mp h]
    exact va_Nw.use rfl (nw_warm hW rfl (X.2.2.2.2.1.2 _ hM.1 rfl))
  · have h2 := hM.2.2.2.1
    rw [h] at h2
    exact (Option.some.inj h2).symm
theorem q_backN (X : CX G A p s m meth c own cc nL) {y : MethodName} {bytes : ByteArray} {maxL fr lo n idx : Nat} {ret : Option FieldType} {host : String} (hM : MF y bytes maxL ret n) (hw : Cond.methodLinkNest own idx y host ∈ lw_tbl) (hR : fr + 1 ≤ R.frames ∧ 8 + (maxL + 11) + lo ≤ R.locals) : va_CN R s args own idx y host bytes maxL ret [.code y bytes maxL ret] { frames := fr, cells := 0, slots := 0, locals := lo } 0 0 n := by
  have U := fun (w : Cond) (a : w ∈ lw_tbl) (b : gw w = true) => X.2.2.2.2.1.use (args := args) a b
  refine ⟨⟨rfl, rfl, hR.1, hR.2, fun w h a' U' hW => ?_, List.mem_singleton.mpr rfl⟩, U _ hM.1 rfl, U _ hM.2.1 rfl, hM.2.2.1, fun sig h => ?_, U _ hw rfl⟩
  · rw [List.mem_singleton.mp h]
    exact va_Nw.use rfl (nw_warm hW rfl (X.2.2.2.2.1.2 _ hM.1 rfl))
  · have h2 := hM.2.2.2.1
    rw [h] at h2
    exact (Option.some.inj h2).symm
theorem q_callV (X : CX G A p s m meth c own cc nL) {y : MethodName} {bytes : ByteArray} {maxL fr lo n idx g j ci N : Nat} {ret : Option FieldType} {As rest : List Value} {h1 : Hp} {r : Option Value} {C : String} {T : u_T} {ty : Nat → FieldType} {fs : List ar_F} (hC : CM G l y bytes maxL ret fr lo (.ref (gA G g j) :: As) h h1 r) (hM : MF y bytes maxL ret n) (hI : MV y) (F : CF ci C T N ty) (hcls : y.cls = C) (hc : ar_cell (gT G g) j = some (.inl (ci, fs))) (hw : Cond.methodLink own idx y ∈ lw_tbl) (hn : As.length = n) (hR : fr + 1 ≤ R.frames ∧ 8 + (maxL + 11) + lo ≤ R.locals) (hf : cells + 0 ≤ R.cells ∧ slots + 0 ≤ R.slots) (hst : st = As.reverse ++ .ref (gA G g j) :: rest) (hro : (rest.map fun v => v.category).sum ≤ 8) (hd : decode cc pc = .ok (.invokevirtual idx, 3)) {st2 : List Value} (hs2 : r.toList ++ rest = st2) (k : VV G A p l e R s m args below meth c cells slots Q nL h1 (pc + 3) lv (st2)) : VV G A p l e R s m args below meth c cells slots Q nL h (pc) lv (st) := fun H locs ls hP hS hl => by
  subst hs2
  obtain ⟨q, hq⟩ := wl_get X.2.2.2.2.2.1 h (g := g) (j := j) (by rw [hc]; exact fun z => by cases z)
  have he : ar_e G h g j = .inr (ci, fs.map (ar_f G h g)) := by unfold ar_e; rw [hc]; rfl
  rw [he] at hq
  have U := fun (w : Cond) (a : w ∈ lw_tbl) (b : gw w = true) => X.2.2.2.2.1.use (args := args) a b
  refine q_after X (va_runV (As := As) (rest := rest) (Ts := []) (nL := nL) (C := y.cls) ⟨X.1, X.2.1, X.2.2.1, X.2.2.2.1, fun w h => by cases h⟩ hC ⟨q_back X hM hw hR, U _ hI.1 rfl, U _ hI.2 rfl⟩ ⟨PC.blind, ?_, fun U hU hW => ⟨rfl, X.2.2.2.2.1.warm hW, by rw [hU]; exact hP⟩⟩ rfl hn hl.1 hst (lv_room hro) hd hf) hS hl k
  have h9 := va_recv X.2.2.2.2.1.1 hP (ci := ci) (q0 := q) F.1 hq
  rw [hcls]
  exact h9
theorem q_callS (X : CX G A p s m meth c own cc nL) {y : MethodName} {bytes : ByteArray} {maxL fr lo n idx : Nat} {ret : Option FieldType} {As rest : List Value} {h1 : Hp} {r : Option Value} (hC : CM G l y bytes maxL ret fr lo As h h1 r) (hM : MF y bytes maxL ret n) (hI : Cond.static y ∈ lw_tbl) (hw : Cond.methodLink own idx y ∈ lw_tbl) (hn : As.length = n) (hR : fr + 1 ≤ R.frames ∧ 8 + (maxL + 11) + lo ≤ R.locals) (hf : cells + 0 ≤ R.cells ∧ slots + 0 ≤ R.slots) (hst : st = As.reverse ++ rest) (hro : (rest.map fun v => v.category).sum ≤ 8) (hd : decode cc pc = .ok (.invokestatic idx, 3)) {st2 : List Value} (hs2 : r.toList ++ rest = st2) (k : VV G A p l e R s m args below meth c cells slots Q nL h1 (pc + 3) lv (st2)) : VV G A p l e R s m args below meth c cells slots Q nL h (pc) lv (st) := fun H locs ls hP hS hl => by
  subst hs2
  have U := fun (w : Cond) (a : w ∈ lw_tbl) (b : gw w = true) => X.2.2.2.2.1.use (args := args) a b
  exact q_after X (va_runS (As := As) (rest := rest) (Ts := []) (nL := nL) ⟨X.1, X.2.1, X.2.2.1, X.2.2.2.1, fun w h => by cases h⟩ hC ⟨q_back X hM hw hR, U _ hI rfl⟩ ⟨PC.blind, fun U hU hW => ⟨rfl, X.2.2.2.2.1.warm hW, by rw [hU]; exact hP⟩⟩ rfl hn hl.1 hst (lv_room hro) hd hf) hS hl k
theorem q_callSN (X : CX G A p s m meth c own cc nL) {y : MethodName} {bytes : ByteArray} {maxL fr lo n idx : Nat} {ret : Option FieldType} {host : String} {As rest : List Value} {h1 : Hp} {r : Option Value} (hC : CM G l y bytes maxL ret fr lo As h h1 r) (hM : MF y bytes maxL ret n) (hI : Cond.static y ∈ lw_tbl) (hw : Cond.methodLinkNest own idx y host ∈ lw_tbl) (hn : As.length = n) (hR : fr + 1 ≤ R.frames ∧ 8 + (maxL + 11) + lo ≤ R.locals) (hf : cells + 0 ≤ R.cells ∧ slots + 0 ≤ R.slots) (hst : st = As.reverse ++ rest) (hro : (rest.map fun v => v.category).sum ≤ 8) (hd : decode cc pc = .ok (.invokestatic idx, 3)) {st2 : List Value} (hs2 : r.toList ++ rest = st2) (k : VV G A p l e R s m args below meth c cells slots Q nL h1 (pc + 3) lv (st2)) : VV G A p l e R s m args below meth c cells slots Q nL h (pc) lv (st) := fun H locs ls hP hS hl => by
  subst hs2
  have U := fun (w : Cond) (a : w ∈ lw_tbl) (b : gw w = true) => X.2.2.2.2.1.use (args := args) a b
  exact q_after X (va_runSN (As := As) (rest := rest) (Ts := []) (nL := nL) ⟨X.1, X.2.1, X.2.2.1, X.2.2.2.1, fun w h => by cases h⟩ hC ⟨q_backN X hM hw hR, U _ hI rfl, trivial⟩ ⟨PC.blind, fun U hU hW => ⟨rfl, X.2.2.2.2.1.warm hW, by rw [hU]; exact hP⟩⟩ rfl hn hl.1 hst (lv_room hro) hd hf) hS hl k
/-- System.arraycopy of ints from a row's array onto another's, both from 0 -/
theorem q_copy (X : CX G A p s m meth c own cc nL) {idx g j o t g' j' o' t' : Nat} {n : Int32} {rest : List Value} {h2 : Hp} (hc : ar_cell (gT G g) j = some (.inr (.inl (o, t)))) (hc' : ar_cell (gT G g') j' = some (.inr (.inl (o', t')))) (hw : Cond.methodLink own idx arraycopyName ∈ lw_tbl ∧ Cond.native arraycopyName ∈ lw_tbl ∧ Cond.static arraycopyName ∈ lw_tbl ∧ Cond.initialized "java/lang/System" ∈ lw_tbl) (h3 : ¬ n < 0) (h4 : n.toNatClampNeg ≤ ar_n (gT G g) g) (h5 : n.toNatClampNeg ≤ ar_n (gT G g') g') (hro : 1 ≤ R.frames ∧ (rest.map fun v => v.category).sum + (nativeFrameWords "java/lang/System" "arraycopy" 5 + 11) ≤ R.locals) (hd : decode cc pc = .ok (.invokestatic idx, 3)) (he : ar_e G h2 g' j' = .inl (gI G, ar_n (gT G g') g', .inl (va_cpy (fun k => h g (o + t * k)) (fun k => h g' (o' + t' * k)) 0 0 n.toNatClampNeg))) (ho : ∀ a b : Nat, ar_cell (gT G a) b ≠ none → (a = g' ∧ b = j' → False) → ar_e G h2 a b = ar_e G h a b) (k : VV G A p l e R s m args below meth c cells slots Q nL h2 (pc + 3) lv (rest)) : VV G A p l e R s m args below meth c cells slots Q nL h (pc) lv (.int n :: .int 0 :: .ref (gA G g' j') :: .int 0 :: .ref (gA G g j) :: rest) := fun H locs ls hP hS hl => by
  have U := fun (w : Cond) (a : w ∈ lw_tbl) (b : gw w = true) => X.2.2.2.2.1.use (args := args) a b
  have hnn : ar_cell (gT G g') j' ≠ none := by rw [hc']; exact fun z => by cases z
  obtain ⟨q, hq⟩ := wl_get X.2.2.2.2.2.1 h (g := g) (j := j) (by rw [hc]; exact fun z => by cases z)
  have he1 : ar_e G h g j = .inl (gI G, ar_n (gT G g) g, .inl (fun k => h g (o + t * k))) := by unfold ar_e; rw [hc]; rfl
  rw [he1] at hq
  obtain ⟨q', hq'⟩ := wl_get X.2.2.2.2.2.1 h (g := g') (j := j') hnn
  have hq0 := hq'
  have he2 : ar_e G h g' j' = .inl (gI G, ar_n (gT G g') g', .inl (fun k => h g' (o' + t' * k))) := by unfold ar_e; rw [hc']; rfl
  rw [he2] at hq'
  have hD := wl_D X.2.2.2.2.2.1 X.2.2.2.2.2.2.1 (ar_nd G) h
  have z0 : (0 : Int32).toNatClampNeg = 0 := rfl
  refine va_copyi X.1 X.2.1 (X.2.2.1.trans hl.1.symm) X.2.2.2.1 (U _ hw.1 rfl) (U _ hw.2.1 rfl) (U _ hw.2.2.1 rfl) (U _ hw.2.2.2 rfl) X.2.2.2.2.1.1 hP hD hS q q' 0 0 hq hq' rfl rfl rfl (by decide) (by decide) h3 (by rw [z0, Nat.zero_add]; exact h4) (by rw [z0, Nat.zero_add]; exact h5) (fun i _ => rfl) hro.1 hro.2 hd (fun H1 locs1 hP1 hD1 hS1 => k H1 locs1 ls ?_ hS1 hl)
  rw [wl_set X.2.2.2.2.2.1 (h' := h2) hD hnn hq0 (by rw [he, z0]) (fun g' j' q1 q2 => ho g' j' q1 q2)] at hP1
  exact hP1
theorem q_ald (X : CX G A p s m meth c own cc nL) {g : Nat} {i : Int32} {g2 : Nat} (hc : ar_cell (gT G g) 1 = some (.inr (.inr ()))) (hin : vp_in i 5) (hd : decode cc pc = .ok (.aaload, 1)) (hv : 11 + 5 * i.toNatClampNeg = g2) (k : VV G A p l e R s m args below meth c cells slots Q nL h (pc + 1) lv (.ref (gA G g2 0) :: st)) : VV G A p l e R s m args below meth c cells slots Q nL h (pc) lv (.int i :: .ref (gA G g 1) :: st) := fun H locs ls hP hS hl => by
  subst hv
  obtain ⟨q, hq⟩ := wl_get X.2.2.2.2.2.1 h (g := g) (j := 1) (by rw [hc]; exact fun z => by cases z)
  have he : ar_e G h g 1 = .inl (gS G, 5, .inr (.inr (.inr (.inr (fun k => some (gA G (11 + 5 * k) 0)))))) := by unfold ar_e; rw [hc]; rfl
  rw [he] at hq
  exact va_aldq X.1 X.2.1 X.2.2.2.2.1.1 hP q 1 hq rfl hin hd (k H locs ls hP hS hl)
theorem q_alenS (X : CX G A p s m meth c own cc nL) {g : Nat} (hc : ar_cell (gT G g) 1 = some (.inr (.inr ()))) (hd : decode cc pc = .ok (.arraylength, 1)) (k : VV G A p l e R s m args below meth c cells slots Q nL h (pc + 1) lv (.int 5 :: st)) : VV G A p l e R s m args below meth c cells slots Q nL h (pc) lv (.ref (gA G g 1) :: st) := fun H locs ls hP hS hl => by
  obtain ⟨q, hq⟩ := wl_get X.2.2.2.2.2.1 h (g := g) (j := 1) (by rw [hc]; exact fun z => by cases z)
  have he : ar_e G h g 1 = .inl (gS G, 5, .inr (.inr (.inr (.inr (fun k => some (gA G (11 + 5 * k) 0)))))) := by unfold ar_e; rw [hc]; rfl
  rw [he] at hq
  exact va_alen X.1 X.2.1 X.2.2.2.2.1.1 hP q 1 hq rfl rfl hd (k H locs ls hP hS hl)
end QS
section QE
variable {G : Geo} {p : Program} {l : Launch} {e : Env} {R : Room} {s : State} {m : MethodId} {args : Array Value} {below : List Frame} {meth : Method} {c : Code} {nL : Nat}
variable {own : String} {cc : ByteArray} {h h1 : Hp} {pc : Nat} {lv : List (Nat × Value)} {r : Option Value}
theorem q_iret (X : CX G (AA G) p s m meth c own cc nL) {v : Int32} (hr : meth.sig.returnType = some .int) (hd : decode cc pc = .ok (.ireturn, 1)) (e1 : r = some (.int v)) (e2 : h1 = h) : VV G (AA G) p l e R s m args below meth c 0 0 (MQ below (QC G h1 r) args s 0 0 (AA G)) nL h pc lv [.int v] := fun H locs ls hP hS hl => by
  subst e1; subst e2
  exact W.iret (v := v) X.1 X.2.1 hr (fun t ht hW => ⟨rfl, by rw [ht]; exact hP, hS.F ht⟩) hS.2.2 hd X.2.2.2.2.2.2.2
theorem q_zret (X : CX G (AA G) p s m meth c own cc nL) {v : Int32} (hr : meth.sig.returnType = some .boolean) (hn : narrow .boolean (.int v) = .int v) (hd : decode cc pc = .ok (.ireturn, 1)) (e1 : r = some (.int v)) (e2 : h1 = h) : VV G (AA G) p l e R s m args below meth c 0 0 (MQ below (QC G h1 r) args s 0 0 (AA G)) nL h pc lv [.int v] := fun H locs ls hP hS hl => by
  subst e1; subst e2
  exact W.zret (v := v) X.1 X.2.1 hr hn (fun t ht hW => ⟨rfl, by rw [ht]; exact hP, hS.F ht⟩) hS.2.2 hd X.2.2.2.2.2.2.2
theorem q_lret (X : CX G (AA G) p s m meth c own cc nL) {v : Int64} (hr : meth.sig.returnType = some .long) (hd : decode cc pc = .ok (.lreturn, 1)) (e1 : r = some (.long v)) (e2 : h1 = h) : VV G (AA G) p l e R s m args below meth c 0 0 (MQ below (QC G h1 r) args s 0 0 (AA G)) nL h pc lv [.long v] := fun H locs ls hP hS hl => by
  subst e1; subst e2
  exact W.lret (v := v) X.1 X.2.1 hr (fun t ht hW => ⟨rfl, by rw [ht]; exact hP, hS.F ht⟩) hS.2.2 hd X.2.2.2.2.2.2.2
theorem q_aret (X : CX G (AA G) p s m meth c own cc nL) {a : Nat} {n : String} (hr : meth.sig.returnType = some (.object n)) (hd : decode cc pc = .ok (.areturn, 1)) (e1 : r = some (.ref a)) (e2 : h1 = h) : VV G (AA G) p l e R s m args below meth c 0 0 (MQ below (QC G h1 r) args s 0 0 (AA G)) nL h pc lv [.ref a] := fun H locs ls hP hS hl => by
  subst e1; subst e2
  exact W.aret (v := .ref a) X.1 X.2.1 hr (Or.inl ⟨_, rfl⟩) (Or.inr ⟨_, rfl⟩) (fun t ht hW => ⟨rfl, by rw [ht]; exact hP, hS.F ht⟩) hS.2.2 hd X.2.2.2.2.2.2.2
theorem q_vret (X : CX G (AA G) p s m meth c own cc nL) (hr : meth.sig.returnType = none) (hd : decode cc pc = .ok (.return_, 1)) (e1 : r = none) (e2 : h1 = h) : VV G (AA G) p l e R s m args below meth c 0 0 (MQ below (QC G h1 r) args s 0 0 (AA G)) nL h pc lv [] := fun H locs ls hP hS hl => by
  subst e1; subst e2
  exact W.vret X.1 X.2.1 hr (fun t ht hW => ⟨rfl, by rw [ht]; exact hP, hS.F ht⟩) hS.2.2 hd X.2.2.2.2.2.2.2
end QE
theorem Met.ofWF {y : MethodName} {ws ws' : List Cond} {rm : Room} {Pc : Array Value → State → Prop} {Qc : Array Value → State → Outcome → State → Prop} {mc ms : Nat} {free : Addr → Prop} {cc : ByteArray} {maxL : Nat} {ret : Option FieldType} {l : Launch}
    (hy : plainFor y = true) (hw : ws = Cond.code y cc maxL ret :: ws')
    (body : ∀ p e s m args below meth c s₁, BodyLoose p l y (headSpec ws rm) cc maxL ret e s m args below meth c s₁ → c.maxLocals = maxL → Pc args s →
      W p l e (headSpec ws rm).room s m args below meth c s.heap [] 0 0 (MQ below Qc args s mc ms free) (entryFrame m args maxL)) : Met l y ws rm Pc Qc mc ms free := by
  refine MetFree.of_bodySF (code := cc) (maxLocals := maxL) (ret := ret) hy ?_ ?_
  · intro args s m h hn
    obtain ⟨meth, c, h1, h2, h3, h4, h5, h6, -, -⟩ := Cond.code_spec hn (atoms_spec (ws := ws) h _ (by rw [hw]; exact List.mem_cons_self))
    exact ⟨meth, c, h1, h2, h3, h4, h5, h6⟩
  · intro p e s m args below meth c s₁ B hml hP _
    have hh0 : s₁.heap = s.heap := by rw [B.state]; rfl
    obtain ⟨t, a1, o, b1, b2, b3⟩ := body p e s m args below meth c s₁ B hml hP s₁ hh0 (Stand.of_body B)
    exact ⟨t, o, a1, b1, b2, ⟨b3.1, b3.2⟩⟩
/-- a method, from its entry -/
theorem q_enter {G : Geo} {l : Launch} {y : MethodName} {bytes : ByteArray} {maxL fr lo n : Nat} {ret : Option FieldType} {av : List Value} {h h1 : Hp} {r : Option Value} (hG : GOK G) (hM : MF y bytes maxL ret n) (hav : (lg_sl av).length ≤ maxL)
    (body : ∀ (p : Program) (e : Env) (s : State) (m : MethodId) (below : List Frame) (meth : Method) (c : Code), CX G (AA G) p s m meth c y.cls bytes maxL → meth.sig.returnType = ret → VV G (AA G) p l e { frames := fr, cells := 0, slots := 0, locals := lo } s m av.toArray below meth c 0 0 (MQ below (QC G h1 r) av.toArray s 0 0 (AA G)) maxL h 0 (lv_args 0 av) []) : CM G l y bytes maxL ret fr lo av h h1 r := by
  refine Met.ofWF (cc := bytes) (maxL := maxL) (ret := ret) hM.2.2.2.2 rfl ?_
  intro p e s m args below meth c s₁ B hml hv
  obtain ⟨rfl, hK, hP⟩ := hv
  have hown : s.vm.findClass y.cls = some m.cls := findClass_of_methodNamed B.named
  have X : CX G (AA G) p s m meth c y.cls bytes maxL := ⟨B.exec, B.bytes, hml, hown, hK, hG, fun g j h => ⟨g, j, h, rfl⟩, B.notSynchronized⟩
  have hl := lv_entry av (n := maxL) hav
  rw [lg_entry_eq]
  exact body p e s m below meth c X B.returns s.heap [] _ hP va_S.rf hl
theorem ac_0_0 {G : Geo} {g : Nat} (h : gT G g = 0) : ar_cell (gT G g) 0 = some (.inl (9, [.inr (1, 0), .inr (2, 0), .inr (2, 1), .inr (3, 0), .inr (4, 0), .inr (5, 0), .inr (10, 0), .inr (7, 0), .inr (8, 0), .inr (6, 0)])) := by rw [h]; rfl
theorem ac_1_0 {G : Geo} {g : Nat} (h : gT G g = 1) : ar_cell (gT G g) 0 = some (.inl (7, [.inr (1, 0), .inr (2, 0), .inr (3, 0), .inr (4, 0)])) := by rw [h]; rfl
theorem ac_2_0 {G : Geo} {g : Nat} (h : gT G g = 2) : ar_cell (gT G g) 0 = some (.inl (4, [.inr (0, 1), .inr (0, 2), .inl 0, .inl 1, .inl 2, .inl 4, .inl 7, .inl 13])) := by rw [h]; rfl
theorem ac_2_1 {G : Geo} {g : Nat} (h : gT G g = 2) : ar_cell (gT G g) 1 = some (.inl (5, [.inl 3, .inl 9, .inl 10, .inl 11, .inl 12, .inl 5, .inl 6, .inl 14, .inl 15, .inl 8])) := by rw [h]; rfl
theorem ac_2_2 {G : Geo} {g : Nat} (h : gT G g = 2) : ar_cell (gT G g) 2 = some (.inl (0, [.inl 16, .inl 17, .inl 18, .inl 19, .inl 20, .inr (0, 3), .inl 23, .inl 24, .inl 25])) := by rw [h]; rfl
theorem ac_2_3 {G : Geo} {g : Nat} (h : gT G g = 2) : ar_cell (gT G g) 3 = some (.inr (.inl (26, 1))) := by rw [h]; rfl
theorem ac_3_0 {G : Geo} {g : Nat} (h : gT G g = 3) : ar_cell (gT G g) 0 = some (.inl (6, [.inr (0, 1), .inr (0, 2), .inl 0])) := by rw [h]; rfl
theorem ac_3_1 {G : Geo} {g : Nat} (h : gT G g = 3) : ar_cell (gT G g) 1 = some (.inr (.inl (1, 2))) := by rw [h]; rfl
theorem ac_3_2 {G : Geo} {g : Nat} (h : gT G g = 3) : ar_cell (gT G g) 2 = some (.inr (.inl (2, 2))) := by rw [h]; rfl
theorem ac_5_0 {G : Geo} {g : Nat} (h : gT G g = 5) : ar_cell (gT G g) 0 = some (.inl (2, [.inr (0, 1), .inl 1, .inl 0])) := by rw [h]; rfl
theorem ac_5_1 {G : Geo} {g : Nat} (h : gT G g = 5) : ar_cell (gT G g) 1 = some (.inr (.inl (2, 1))) := by rw [h]; rfl
theorem ac_6_0 {G : Geo} {g : Nat} (h : gT G g = 6) : ar_cell (gT G g) 0 = some (.inl (8, [.inr (0, 1), .inl 0])) := by rw [h]; rfl
theorem ac_6_1 {G : Geo} {g : Nat} (h : gT G g = 6) : ar_cell (gT G g) 1 = some (.inr (.inl (1, 1))) := by rw [h]; rfl
theorem ac_7_0 {G : Geo} {g : Nat} (h : gT G g = 7) : ar_cell (gT G g) 0 = some (.inl (3, [.inr (1, 0), .inl 0])) := by rw [h]; rfl
theorem ac_8_0 {G : Geo} {g : Nat} (h : gT G g = 8) : ar_cell (gT G g) 0 = some (.inl (1, [.inr (0, 1), .inl 0, .inl 1])) := by rw [h]; rfl
theorem ac_8_1 {G : Geo} {g : Nat} (h : gT G g = 8) : ar_cell (gT G g) 1 = some (.inr (.inr ())) := by rw [h]; rfl
theorem ac_9_0 {G : Geo} {g : Nat} (h : gT G g = 9) : ar_cell (gT G g) 0 = some (.inl (10, [.inl 0, .inr (1, 0), .inr (2, 0), .inr (3, 0), .inl 1, .inr (4, 0), .inl 2, .inl 3, .inl 4, .inr (5, 0)])) := by rw [h]; rfl
theorem ac_10_0 {G : Geo} {g : Nat} (h : gT G g = 10) : ar_cell (gT G g) 0 = some (.inr (.inl (0, 1))) := by rw [h]; rfl
theorem ac_11_0 {G : Geo} {g : Nat} (h : gT G g = 11) : ar_cell (gT G g) 0 = some (.inr (.inl (0, 1))) := by rw [h]; rfl
theorem ac_12_0 {G : Geo} {g : Nat} (h : gT G g = 12) : ar_cell (gT G g) 0 = some (.inr (.inl (0, 1))) := by rw [h]; rfl
theorem ac_13_0 {G : Geo} {g : Nat} (h : gT G g = 13) : ar_cell (gT G g) 0 = some (.inr (.inl (0, 1))) := by rw [h]; rfl
theorem ne_ty {G : Geo} {a b x y : Nat} (ha : gT G a = x) (hb : gT G b = y) (h : x ≠ y) : a ≠ b := fun e => h (by rw [← ha, ← hb, e])
theorem va_up_id2 {α : Type} {f : Nat → α} {k : Nat} {v : α} (h : f k = v) : va_up f k v = f := by rw [← h]; exact va_up_id f k
theorem z01 {v : Int32} (h : v = 0 ∨ v = 1) : narrow .boolean (.int v) = .int v := by
  rcases h with rfl | rfl <;> rfl
theorem lgc_ne {y : Int64} (h : ¬ lg_cmp y 0 ≤ 0) : ¬ y = 0 := by
  rintro rfl
  exact h (by decide)
