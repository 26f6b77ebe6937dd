/-! OBJECTS THAT ARE MADE: the world a list of cells; a row an instruction -/
abbrev E0 (D : va_G) (cI cS : ClassId) : Geo := (D, cI, cS, fun _ => 14, fun _ _ => 0)
theorem GOK0 (D : va_G) (cI cS : ClassId) : GOK (E0 D cI cS) := ⟨fun g j _ _ h => absurd (ar_T14 j) h, fun _ _ => rfl⟩
def VC (D : va_G) (A : Nat → Prop) (p : Program) (l : Launch) (e : Env) (R : Room) (s : State) (m : MethodId) (args : Array Value) (below : List Frame) (meth : Method) (c : Code) (cells slots : Nat) (Q : State → Prop) (nL : Nat) (ws : va_W) (pc : Nat) (lv : List (Nat × Value)) (st : List Value) : Prop :=
  ∀ (H : Heap) (locs : List Loc) (ls : Array Slot), va_P D vwCl ws H → va_D A ws → va_S A s.heap H locs → lv_has ls nL lv → W p l e R s m args below meth c H locs cells slots Q (F0 m pc ls st)
/-- a constructor's contract: the object as it was made, the cells behind it -/
def CN (D : va_G) (cI cS : ClassId) (l : Launch) (y : MethodName) (bytes : ByteArray) (maxL fr lo mc ms a : Nat) (As : List Value) (e0 : va_E) (W1 : (Nat → Nat) → va_W) : Prop :=
  ∀ sz : Nat, Met l y [.code y bytes maxL none] { frames := fr, cells := mc, slots := ms, locals := lo } (va_Pc (.ref a :: As) (fun U => U.heap.size = sz ∧ GK (E0 D cI cS) U ∧ va_AO "RoastKeeper$State" U ∧ va_P D vwCl [(a, e0)] U.heap)) (va_Qv (fun _ : Nat → Nat => True) (fun u t => va_P D vwCl (W1 u) t.heap ∧ va_D (va_A [(a, e0)] sz) (W1 u)) (va_A [(a, e0)] sz)) mc ms (va_A [(a, e0)] sz)
theorem jn {A0 : Nat → Prop} {D : va_G} {cl : List vw_C} {wr wc w1 : va_W} {H H1 : Heap} (hP : va_P D cl (wr ++ wc) H) (hD : va_D A0 (wr ++ wc)) (hk : ∀ q : Nat, q < H.size → ¬ va_A wc H.size q → H1[q]? = H[q]?) (hF : ∀ q, va_A wc H.size q → A0 q) (hP1 : va_P D cl w1 H1) (hD1 : va_D (va_A wc H.size) w1) : va_P D cl (wr ++ w1) H1 ∧ va_D A0 (wr ++ w1) := by
  have lf : ∀ (k : Nat) (q : Nat × va_E), wr[k]? = some q → (wr ++ wc)[k]? = some q := fun k q hq => by
    rw [List.getElem?_append_left (List.getElem?_eq_some_iff.mp hq).1]; exact hq
  have apart : ∀ (k : Nat) (q : Nat × va_E), wr[k]? = some q → q.1 < H.size ∧ ¬ va_A wc H.size q.1 := by
    intro k q hq
    have hl := (List.getElem?_eq_some_iff.mp hq).1
    have lt := (hP k q (lf k q hq)).lt
    refine ⟨lt, fun h => ?_⟩
    rcases h with ⟨k2, e, h⟩ | h
    · have h2 : (wr ++ wc)[wr.length + k2]? = some (q.1, e) := by rw [List.getElem?_append_right (by omega), Nat.add_sub_cancel_left]; exact h
      have := hD.1 k (wr.length + k2) q (q.1, e) (lf k q hq) h2 rfl
      omega
    · omega
  refine ⟨va_P.app (fun k q hq => ?_) hP1, va_D.app ⟨fun i j p q hi hj h => hD.1 i j p q (lf i p hi) (lf j q hj) h, fun k q hk => hD.2 k q (lf k q hk)⟩ (hD1.weaken (fun k q _ h => hF q.1 h)) (fun i j x y hx hy hxy => ?_)⟩
  · obtain ⟨g1, g2⟩ := apart k q hq
    exact (hP k q (lf k q hq)).kept (hk q.1 g1 g2)
  · exact (apart i x hx).2 (by rw [hxy]; exact hD1.2 j y hy)
theorem GK.arr {D : va_G} {cI cS : ClassId} {U : State} (h : GK (E0 D cI cS) U) (args : Array Value) : (Cond.arrayClass .int).before args U = true := by
  obtain ⟨h1, h2⟩ := h.1.2 0 (cI, .int) rfl
  obtain ⟨-, kA, g1, comp, g2⟩ := h1 0 (fun _ => .null)
  have h3 : U.vm.findClass ("[" ++ FieldType.int.toString) = some cI := h2
  have g3 : U.vm.classes[cI]? = some kA := g1
  unfold Cond.before Cond.holds
  simp only [Cond.value]
  rw [h3]
  simp [g3, g2]
section ZR
variable {D : va_G} {cI cS : ClassId} {A : Nat → Prop} {p : Program} {l : Launch} {e : Env} {R : Room} {s : State} {m : MethodId} {args : Array Value} {below : List Frame} {meth : Method} {c : Code} {cells slots : Nat} {Q : State → Prop} {nL : Nat}
variable {own : String} {cc : ByteArray} {ws : va_W} {pc : Nat} {lv : List (Nat × Value)} {st : List Value}
theorem z_iconst (X : CX (E0 D cI cS) A p s m meth c own cc nL) {n : Int} {v : Int32} (hd : decode cc pc = .ok (.iconst n, 1)) (hv : Int32.ofInt n = v) (k : VC D A p l e R s m args below meth c cells slots Q nL ws (pc + 1) lv (.int v :: st)) : VC D A p l e R s m args below meth c cells slots Q nL ws (pc) lv (st) := fun H locs ls hP hD hS hl => lv_iconst X.1 X.2.1 hd hv (k H locs ls hP hD hS hl)
theorem z_bipush (X : CX (E0 D cI cS) A p s m meth c own cc nL) {n : Int} {v : Int32} (hd : decode cc pc = .ok (.bipush n, 2)) (hv : (Int8.ofInt n).toInt32 = v) (k : VC D A p l e R s m args below meth c cells slots Q nL ws (pc + 2) lv (.int v :: st)) : VC D A p l e R s m args below meth c cells slots Q nL ws (pc) lv (st) := fun H locs ls hP hD hS hl => lv_bipush X.1 X.2.1 hd hv (k H locs ls hP hD hS hl)
theorem z_sipush (X : CX (E0 D cI cS) A p s m meth c own cc nL) {n : Int} {v : Int32} (hd : decode cc pc = .ok (.sipush n, 3)) (hv : (Int16.ofInt n).toInt32 = v) (k : VC D A p l e R s m args below meth c cells slots Q nL ws (pc + 3) lv (.int v :: st)) : VC D A p l e R s m args below meth c cells slots Q nL ws (pc) lv (st) := fun H locs ls hP hD hS hl => lv_sipush X.1 X.2.1 hd hv (k H locs ls hP hD hS hl)
theorem z_ldc (X : CX (E0 D cI cS) A p s m meth c own cc nL) {index : Nat} {v : Int32} (hw : Cond.constant own index v ∈ lw_tbl) (hd : decode cc pc = .ok (.ldc index, 2)) (k : VC D A p l e R s m args below meth c cells slots Q nL ws (pc + 2) lv (.int v :: st)) : VC D A p l e R s m args below meth c cells slots Q nL ws (pc) lv (st) := fun H locs ls hP hD hS hl => lv_ldc X.1 X.2.1 X.2.2.2.1 (X.2.2.2.2.1.use hw rfl args) hd (k H locs ls hP hD hS hl)
theorem z_iload_n (X : CX (E0 D cI cS) A p s m meth c own cc nL) {i : Fin 4} (q : Nat) {x : Int32} (hd : decode cc pc = .ok (.iload_n i, 1)) (hq : lv[q]? = some ((i : Nat), .int x)) (k : VC D A p l e R s m args below meth c cells slots Q nL ws (pc + 1) lv (.int x :: st)) : VC D A p l e R s m args below meth c cells slots Q nL ws (pc) lv (st) := fun H locs ls hP hD hS hl => lv_iload_n X.1 X.2.1 hd rfl (lv_at hl q hq) (k H locs ls hP hD hS hl)
theorem z_istore_n (X : CX (E0 D cI cS) A p s m meth c own cc nL) {i : Fin 4} {x : Int32} {lv' : List (Nat × Value)} (hd : decode cc pc = .ok (.istore_n i, 1)) (hn : (i : Nat) < nL) (hv : ((i : Nat), Value.int x) :: lv.filter (fun q => !(q.1 == (i : Nat)) && !(q.1 + 1 == (i : Nat) && q.2.category == 2)) = lv') (k : VC D A p l e R s m args below meth c cells slots Q nL ws (pc + 1) lv' (st)) : VC D A p l e R s m args below meth c cells slots Q nL ws (pc) lv (.int x :: st) := fun H locs ls hP hD hS hl => lv_istore_n X.1 X.2.1 hd rfl hl hn hv (fun ls hl => k H locs ls hP hD hS hl)
theorem z_aload_n (X : CX (E0 D cI cS) A p s m meth c own cc nL) {i : Fin 4} (q : Nat) {x : Nat} (hd : decode cc pc = .ok (.aload_n i, 1)) (hq : lv[q]? = some ((i : Nat), .ref x)) (k : VC D A p l e R s m args below meth c cells slots Q nL ws (pc + 1) lv (.ref x :: st)) : VC D A p l e R s m args below meth c cells slots Q nL ws (pc) lv (st) := fun H locs ls hP hD hS hl => lv_aload_n X.1 X.2.1 hd rfl (lv_at hl q hq) (k H locs ls hP hD hS hl)
theorem z_iinc (X : CX (E0 D cI cS) A p s m meth c own cc nL) {i : Nat} (q : Nat) {n : Int} {x v : Int32} {lv' : List (Nat × Value)} (hd : decode cc pc = .ok (.iinc i n, 3)) (hq : lv[q]? = some (i, .int x)) (hx : x + Int32.ofInt n = v) (hn : i < nL) (hv : (i, Value.int v) :: lv.filter (fun q => !(q.1 == i) && !(q.1 + 1 == i && q.2.category == 2)) = lv') (k : VC D A p l e R s m args below meth c cells slots Q nL ws (pc + 3) lv' (st)) : VC D A p l e R s m args below meth c cells slots Q nL ws (pc) lv (st) := fun H locs ls hP hD hS hl => lv_iinc X.1 X.2.1 hd hl hq hx hn hv (fun ls hl => k H locs ls hP hD hS hl)
theorem z_goto (X : CX (E0 D cI cS) A p s m meth c own cc nL) {off : Int} {tgt : Nat} (hd : decode cc pc = .ok (.goto off, 3)) (ht : (pc : Int) + off = (tgt : Int)) (k : VC D A p l e R s m args below meth c cells slots Q nL ws (tgt) lv (st)) : VC D A p l e R s m args below meth c cells slots Q nL ws (pc) lv (st) := fun H locs ls hP hD hS hl => lv_goto X.1 X.2.1 hd ht (k H locs ls hP hD hS hl)
theorem z_icmp_ge (X : CX (E0 D cI cS) A p s m meth c own cc nL) {x y : Int32} {off : Int} {tgt : Nat} (hd : decode cc pc = .ok (.if_icmp .ge off, 3)) (ht : (pc : Int) + off = (tgt : Int)) (kt : y ≤ x → VC D A p l e R s m args below meth c cells slots Q nL ws (tgt) lv (st)) (kf : ¬ y ≤ x → VC D A p l e R s m args below meth c cells slots Q nL ws (pc + 3) lv (st)) : VC D A p l e R s m args below meth c cells slots Q nL ws (pc) lv (.int y :: .int x :: st) := fun H locs ls hP hD hS hl => lv_icmp_ge X.1 X.2.1 hd ht (fun q => kt q H locs ls hP hD hS hl) (fun q => kf q H locs ls hP hD hS hl)
theorem z_dup (X : CX (E0 D cI cS) A p s m meth c own cc nL) {v : Value} (hd : decode cc pc = .ok (.dup, 1)) (h1 : v.category = 1) (k : VC D A p l e R s m args below meth c cells slots Q nL ws (pc + 1) lv (v :: v :: st)) : VC D A p l e R s m args below meth c cells slots Q nL ws (pc) lv (v :: st) := fun H locs ls hP hD hS hl => lv_dup X.1 X.2.1 hd h1 (k H locs ls hP hD hS hl)
theorem z_eq {ws2 : va_W} (e1 : ws = ws2) (k : VC D A p l e R s m args below meth c cells slots Q nL ws2 (pc) lv (st)) : VC D A p l e R s m args below meth c cells slots Q nL ws (pc) lv (st) := by subst e1; exact k
theorem z_obj (X : CX (E0 D cI cS) A p s m meth c own cc nL) {a idx : Nat} (hw : Cond.methodLink own idx objectInit ∈ lw_tbl) (hi : Cond.instanceMethod objectInit ∈ lw_tbl) (hc : Cond.code objectInit ⟨#[0xb1]⟩ 1 none ∈ lw_tbl) (hf : 1 ≤ R.frames) (hlo : (st.map fun v => v.category).sum + 12 ≤ R.locals) (hd : decode cc pc = .ok (.invokespecial idx, 3)) (k : VC D A p l e R s m args below meth c cells slots Q nL ws (pc + 3) lv st) : VC D A p l e R s m args below meth c cells slots Q nL ws (pc) lv (.ref a :: st) := fun H locs ls hP hD hS hl =>
  W.objInit X.1 X.2.1 X.2.2.2.1 (X.2.2.2.2.1.use hw rfl args) (X.2.2.2.2.1.use hi rfl args) (X.2.2.2.2.1.use hc rfl args) rfl (by rw [X.2.2.1]; exact hl.1) rfl hd hf (by show 2 * 0 + _ + 12 ≤ _; omega) (W.eq (g2 := F0 m (pc + 3) ls st) rfl (k H locs ls hP hD hS hl))
theorem z_get (X : CX (E0 D cI cS) A p s m meth c own cc nL) {a fk ci N idx : Nat} (q0 : Nat) {C ref : String} {T : u_T} {ty : Nat → FieldType} {fs : List Value} {v : Value} (F : CF ci C T N ty) (he : ws[q0]? = some (a, .inr (ci, fs))) (hk : fk < N) (hw : Cond.fieldLink own idx ref (T fk).2.1 (T fk).2.2.1 ∈ lw_tbl) (hr : (T fk).1 = ref) (hv : fs[fk]? = some v) (hd : decode cc pc = .ok (.getfield idx, 3)) (k : VC D A p l e R s m args below meth c cells slots Q nL ws (pc + 3) lv (v :: st)) : VC D A p l e R s m args below meth c cells slots Q nL ws (pc) lv (.ref a :: st) := fun H locs ls hP hD hS hl =>
  va_get (D := D) (ci := ci) (v := v) (C := C) (T := T) (N := N) X.1 X.2.1 (X.words (args := args) F) (fun _ z => z) X.2.2.2.1 X.2.2.2.2.1.1 hP q0 he F.1 _ hk (X.2.2.2.2.1.use hw rfl args) (fun x z => by rw [← hr]; exact z) hv hd (k H locs ls hP hD hS hl)
theorem z_put (X : CX (E0 D cI cS) A p s m meth c own cc nL) {a fk ci N idx : Nat} (q0 : Nat) {C ref : String} {T : u_T} {ty : Nat → FieldType} {fs : List Value} {v : Value} {ws2 : va_W} (F : CF ci C T N ty) (he : ws[q0]? = some (a, .inr (ci, fs))) (hk : fk < N) (hw : Cond.fieldLink own idx ref (T fk).2.1 (T fk).2.2.1 ∈ lw_tbl) (hr : (T fk).1 = ref) (hfin : (T fk).2.2.2 = false) (hn : narrow (ty fk) v = v) (hfit : fits (ty fk) v = true) (hl0 : fk < fs.length) (e2 : ws.set q0 (a, .inr (ci, fs.set fk v)) = ws2) (hd : decode cc pc = .ok (.putfield idx, 3)) (k : VC D A p l e R s m args below meth c cells slots Q nL ws2 (pc + 3) lv st) : VC D A p l e R s m args below meth c cells slots Q nL ws (pc) lv (v :: .ref a :: st) := fun H locs ls hP hD hS hl => by
  subst e2
  exact va_put (D := D) (ci := ci) (v := v) (C := C) (T := T) (N := N) X.1 X.2.1 (X.words (args := args) F) (fun _ z => z) ty F.2.2.1 F.2.2.2 X.2.2.2.1 X.2.2.2.2.1.1 hP hD hS q0 he F.1 _ hk (X.2.2.2.2.1.use hw rfl args) (fun x z => by rw [← hr]; exact z) hfin (F.2.2.1 fk hk) hn hfit hl0 hd (fun H1 locs1 hP1 hD1 hS1 => k H1 locs1 ls hP1 hD1 hS1 hl)
theorem z_putF (X : CX (E0 D cI cS) A p s m meth c own cc nL) (hin : meth.name = "<init>") {a fk ci N idx : Nat} (q0 : Nat) {C ref : String} {T : u_T} {ty : Nat → FieldType} {fs : List Value} {v : Value} {ws2 : va_W} (F : CF ci C T N ty) (he : ws[q0]? = some (a, .inr (ci, fs))) (hk : fk < N) (hw : Cond.fieldLink own idx ref (T fk).2.1 (T fk).2.2.1 ∈ lw_tbl) (hr : (T fk).1 = ref) (hfin : (T fk).2.2.2 = true) (hown : (T fk).1 = own) (hn : narrow (ty fk) v = v) (hfit : fits (ty fk) v = true) (hl0 : fk < fs.length) (e2 : ws.set q0 (a, .inr (ci, fs.set fk v)) = ws2) (hd : decode cc pc = .ok (.putfield idx, 3)) (k : VC D A p l e R s m args below meth c cells slots Q nL ws2 (pc + 3) lv st) : VC D A p l e R s m args below meth c cells slots Q nL ws (pc) lv (v :: .ref a :: st) := fun H locs ls hP hD hS hl => by
  subst e2
  exact va_putF (D := D) (ci := ci) (v := v) (C := C) (T := T) (N := N) X.1 X.2.1 (X.words (args := args) F) (fun _ z => z) ty F.2.2.1 F.2.2.2 X.2.2.2.1 X.2.2.2.2.1.1 hP hD hS q0 he F.1 _ hk (X.2.2.2.2.1.use hw rfl args) (fun x z => by rw [← hr]; exact z) hfin hin hown (F.2.2.1 fk hk) hn hfit hl0 hd (fun H1 locs1 hP1 hD1 hS1 => k H1 locs1 ls hP1 hD1 hS1 hl)
theorem z_new (X : CX (E0 D cI cS) A p s m meth c own cc nL) (hA : ∀ q, s.heap.size ≤ q → A q) {ci N idx c2 s2 : Nat} {C : String} {T : u_T} {ty : Nat → FieldType} {fs : List Value} (F : CF ci C T N ty) (hcl : Cond.classLink own idx C ∈ lw_tbl) (hin : Cond.instantiable C N ∈ lw_tbl) (hini : Cond.initialized C ∈ lw_tbl) (hfs : ∀ j, j < N → defaultValue (ty j) = vp_V fs j) (hc : cells + 1 ≤ R.cells) (hs : slots + N ≤ R.slots) (e1 : cells + 1 = c2) (e2 : slots + N = s2) (hd : decode cc pc = .ok (.new idx, 3)) (k : ∀ q : Nat, VC D A p l e R s m args below meth c c2 s2 Q nL (ws ++ [(q, .inr (ci, fs))]) (pc + 3) lv (.ref q :: st)) : VC D A p l e R s m args below meth c cells slots Q nL ws (pc) lv st := fun H locs ls hP hD hS hl => by
  subst e1; subst e2
  exact va_new (D := D) (ci := ci) (fs := fs) (C := C) (T := T) (N := N) X.1 X.2.1 (X.words (args := args) F) (fun _ z => z) ty F.2.2.1 X.2.2.2.1 (X.2.2.2.2.1.use hcl rfl args) (X.2.2.2.2.1.use hin rfl args) (X.2.2.2.2.1.use hini rfl args) X.2.2.2.2.1.1 hP hD hS hA F.1 hfs hc hs hd (fun q H1 hP1 hD1 hS1 => k q H1 locs ls hP1 hD1 hS1 hl)
theorem z_newa (X : CX (E0 D cI cS) A p s m meth c own cc nL) (hA : ∀ q, s.heap.size ≤ q → A q) {n : Int32} {N c2 s2 : Nat} (hn : ¬ n < 0) (hN : n.toNatClampNeg = N) (hb : N * componentBytes .int ≤ 536870912) (hc : cells + 1 ≤ R.cells) (hs : slots + N ≤ R.slots) (e1 : cells + 1 = c2) (e2 : slots + N = s2) (hd : decode cc pc = .ok (.newarray .int, 2)) (k : ∀ q : Nat, VC D A p l e R s m args below meth c c2 s2 Q nL (ws ++ [(q, .inl (cI, N, .inl (fun _ => 0)))]) (pc + 2) lv (.ref q :: st)) : VC D A p l e R s m args below meth c cells slots Q nL ws (pc) lv (.int n :: st) := fun H locs ls hP hD hS hl => by
  subst e1; subst e2
  refine va_newa (D := D) (atype := .int) (ty := .int) (N' := N) (a0 := (N, .inl (fun _ => 0))) X.1 X.2.1 (X.2.2.2.2.1.arr args) rfl X.2.2.2.2.1.1 hP hD hS hA (fun _ => rfl) hn hN hb hc hs hd (fun q cA H1 hK1 hP1 hD1 hS1 => ?_)
  have e3 : cA = cI := Option.some.inj ((hK1.2 2 _ rfl).2.symm.trans (hK1.2 0 _ rfl).2)
  subst e3
  exact k q H1 locs ls hP1 hD1 hS1 hl
theorem z_newq (X : CX (E0 D cI cS) A p s m meth c own cc nL) (hA : ∀ q, s.heap.size ≤ q → A q) {n : Int32} {N c2 s2 idx : Nat} (hcl : Cond.classLink own idx "RoastKeeper$State" ∈ lw_tbl) (hO : va_AO "RoastKeeper$State" s) (hn : ¬ n < 0) (hN : n.toNatClampNeg = N) (hb : N * 4 ≤ 536870912) (hc : cells + 1 ≤ R.cells) (hs : slots + N ≤ R.slots) (e1 : cells + 1 = c2) (e2 : slots + N = s2) (hd : decode cc pc = .ok (.anewarray idx, 3)) (k : ∀ q : Nat, VC D A p l e R s m args below meth c c2 s2 Q nL (ws ++ [(q, .inl (cS, N, .inr (.inr (.inr (.inr (fun _ => none))))))]) (pc + 3) lv (.ref q :: st)) : VC D A p l e R s m args below meth c cells slots Q nL ws (pc) lv (.int n :: st) := fun H locs ls hP hD hS hl => by
  subst e1; subst e2
  refine va_newq (D := D) X.1 X.2.1 X.2.2.2.1 (X.2.2.2.2.1.use hcl rfl args) hO X.2.2.2.2.1.1 hP hD hS hA hn hN hb hc hs hd (fun q cA H1 hK1 hP1 hD1 hS1 => ?_)
  have e3 : cA = cS := by
    obtain ⟨kA, comp, -, -, -, f1⟩ := (hK1.2 2 _ rfl).2
    obtain ⟨kB, comp', -, -, -, f2⟩ := (hK1.2 1 _ rfl).2
    exact Option.some.inj (f1.symm.trans f2)
  subst e3
  exact k q H1 locs ls hP1 hD1 hS1 hl
theorem z_astq (X : CX (E0 D cI cS) A p s m meth c own cc nL) {a v n : Nat} (q0 qk : Nat) {i : Int32} {f : Nat → Option Nat} {vs : List Value} {ws2 : va_W} (ha : ws[q0]? = some (a, .inl (cS, n, .inr (.inr (.inr (.inr f)))))) (hv : ws[qk]? = some (v, .inr (7, vs))) (hin : vp_in i n) (e2 : ws.set q0 (a, .inl (cS, n, .inr (.inr (.inr (.inr (va_up f i.toNatClampNeg (some v))))))) = ws2) (hd : decode cc pc = .ok (.aastore, 1)) (k : VC D A p l e R s m args below meth c cells slots Q nL ws2 (pc + 1) lv st) : VC D A p l e R s m args below meth c cells slots Q nL ws (pc) lv (.ref v :: .int i :: .ref a :: st) := fun H locs ls hP hD hS hl => by
  subst e2
  exact va_astq (D := D) (r := (RX7, TX7, 4)) X.1 X.2.1 X.2.2.2.2.1.1 hP hD hS q0 1 qk 7 ha rfl hv cf_X7.1 hin hd (fun H1 locs1 hP1 hD1 hS1 => k H1 locs1 ls hP1 hD1 hS1 hl)
theorem z_alen (X : CX (E0 D cI cS) A p s m meth c own cc nL) {a n : Nat} (q0 : Nat) {x : Int32} {f : Nat → Option Nat} (ha : ws[q0]? = some (a, .inl (cS, n, .inr (.inr (.inr (.inr f)))))) (hx : Int32.ofNat n = x) (hd : decode cc pc = .ok (.arraylength, 1)) (k : VC D A p l e R s m args below meth c cells slots Q nL ws (pc + 1) lv (.int x :: st)) : VC D A p l e R s m args below meth c cells slots Q nL ws (pc) lv (.ref a :: st) := fun H locs ls hP hD hS hl =>
  va_alen X.1 X.2.1 X.2.2.2.2.1.1 hP q0 1 ha rfl hx hd (k H locs ls hP hD hS hl)
theorem z_max (X : CX (E0 D cI cS) A p s m meth c own cc nL) {idx : Nat} {x y z : Int32} (hw : Cond.methodLink own idx Lib.Math.max.name ∈ lw_tbl) (hst : Cond.static Lib.Math.max.name ∈ lw_tbl) (hini : Cond.initialized "java/lang/Math" ∈ lw_tbl) (hco : Cond.code Lib.Math.max.name Lib.Math.max.code 2 (some .int) ∈ lw_tbl) (hf : 1 ≤ R.frames) (hlo : (st.map fun v => v.category).sum + 13 ≤ R.locals) (hc : cells ≤ R.cells) (hs : slots ≤ R.slots) (hz : (if x < y then y else x) = z) (hd : decode cc pc = .ok (.invokestatic idx, 3)) (k : VC D A p l e R s m args below meth c cells slots Q nL ws (pc + 3) lv (.int z :: st)) : VC D A p l e R s m args below meth c cells slots Q nL ws (pc) lv (.int y :: .int x :: st) := fun H locs ls hP hD hS hl => by
  subst hz
  exact va_mmax X.1 X.2.1 (by rw [X.2.2.1]; exact hl.1.symm) X.2.2.2.1 (X.2.2.2.2.1.use hw rfl args) (X.2.2.2.2.1.use hst rfl args) (X.2.2.2.2.1.use hini rfl args) (X.2.2.2.2.1.use hco rfl args) hf hlo hc hs hd (k H locs ls hP hD hS hl)
theorem CN.blind {G : Geo} {a sz : Nat} {As : List Value} {e0 : va_E} : FrameBlind (va_Pc (.ref a :: As) (fun U => U.heap.size = sz ∧ GK G U ∧ va_AO "RoastKeeper$State" U ∧ va_P (gD G) vwCl [(a, e0)] U.heap)) := fun x U g mk q => ⟨q.1, q.2.1, q.2.2.1.calling g mk x, va_AO.moved (u := U) (U := U.calling g mk x) (Vm.Alike.refl U.vm) q.2.2.2.1, q.2.2.2.2⟩
theorem z_after (X : CX (E0 D cI cS) A p s m meth c own cc nL) (hA : ∀ q, s.heap.size ≤ q → A q) {wr : va_W} {a mc ms c2 s2 : Nat} {e0 : va_E} {st0 rest : List Value} {W1 : (Nat → Nat) → va_W} {av : Array Value} (hr : ∀ (H : Heap) (locs : List Loc) (ls : Array Slot), va_P D vwCl [(a, e0)] H → lv_has ls nL lv → va_Run p l e R s m args below meth c H locs cells slots mc ms (F0 m pc ls st0) rest (va_Qv (fun _ : Nat → Nat => True) (fun u t => va_P D vwCl (W1 u) t.heap ∧ va_D (va_A [(a, e0)] H.size) (W1 u)) (va_A [(a, e0)] H.size) av) (va_A [(a, e0)] H.size)) (e1 : cells + mc = c2) (e2 : slots + ms = s2) (k : ∀ u : Nat → Nat, VC D A p l e R s m args below meth c c2 s2 Q nL (wr ++ W1 u) (pc + 3) lv rest) : VC D A p l e R s m args below meth c cells slots Q nL (wr ++ [(a, e0)]) (pc) lv st0 := fun H locs ls hP hD hS hl => by
  subst e1; subst e2
  have hat : (wr ++ [(a, e0)])[wr.length]? = some (a, e0) := by rw [List.getElem?_append_right (Nat.le_refl _), Nat.sub_self]; rfl
  have hPc : va_P D vwCl [(a, e0)] H := fun k q hq => by
    have hz : k < 1 := (List.getElem?_eq_some_iff.mp hq).1
    rw [show k = 0 by omega] at hq
    cases hq
    exact hP _ _ hat
  have hF : ∀ q, va_A [(a, e0)] H.size q → A q := fun q hq => by
    rcases hq with ⟨k, e, hk⟩ | h
    · have hz : k < 1 := (List.getElem?_eq_some_iff.mp hk).1
      rw [show k = 0 by omega] at hk
      cases hk
      exact hD.2 _ _ hat
    · exact hA q (Nat.le_trans hS.1 h)
  refine va_callv (hr H locs ls hPc hl) hS (fun q _ h => hF q h) hF (fun u t H1 locs1 ht hvm _ hB hz1 hk1 hS1 => ?_)
  rw [ht] at hB
  obtain ⟨hP2, hD2⟩ := jn hP hD hk1 hF hB.1 hB.2
  exact k u H1 locs1 ls hP2 hD2 hS1 hl
theorem z_ctor (X : CX (E0 D cI cS) A p s m meth c own cc nL) (hA : ∀ q, s.heap.size ≤ q → A q) (hO : va_AO "RoastKeeper$State" s) {wr : va_W} {y : MethodName} {bytes : ByteArray} {maxL fr lo n idx a mc ms c2 s2 : Nat} {As rest : List Value} {e0 : va_E} {W1 : (Nat → Nat) → va_W} (hC : CN D cI cS l y bytes maxL fr lo mc ms a As e0 W1) (hM : MF y bytes maxL none n) (hI : Cond.instanceMethod y ∈ lw_tbl) (hy : y.name = "<init>") (hw : Cond.methodLink own idx y ∈ lw_tbl) (hn : As.length = n) (hR : fr + 1 ≤ R.frames ∧ 8 + (maxL + 11) + lo ≤ R.locals) (hf : cells + mc ≤ R.cells ∧ slots + ms ≤ R.slots) (hst : st = As.reverse ++ .ref a :: rest) (hro : (rest.map fun v => v.category).sum ≤ 8) (e1 : cells + mc = c2) (e2 : slots + ms = s2) (hd : decode cc pc = .ok (.invokespecial idx, 3)) (k : ∀ u : Nat → Nat, VC D A p l e R s m args below meth c c2 s2 Q nL (wr ++ W1 u) (pc + 3) lv rest) : VC D A p l e R s m args below meth c cells slots Q nL (wr ++ [(a, e0)]) (pc) lv st := by
  have U := fun (w : Cond) (a : w ∈ lw_tbl) (b : gw w = true) => X.2.2.2.2.1.use (args := args) a b
  have cw : CallB R s args own idx y bytes maxL none [.code y bytes maxL none] { frames := fr, cells := mc, slots := ms, locals := lo } mc ms n := by
    refine ⟨rfl, rfl, hR.1, hR.2, fun w h a' U' hW => ?_, List.mem_singleton.mpr rfl, U _ hM.1 rfl, U _ hM.2.1 rfl, hM.2.2.1, fun sig h => ?_, U _ hw rfl⟩
    · rw [List.mem_singleton.mp h]
      exact va_Nw.use rfl (nw_warm hW rfl (X.2.2.2.2.1.2 _ hM.1 rfl))
    · have h2 := hM.2.2.2.1
      rw [h] at h2
      exact (Option.some.inj h2).symm
  exact z_after X hA (fun H locs ls hP hl => va_runI (As := As) (rest := rest) (Ts := []) (nL := nL) ⟨X.1, X.2.1, X.2.2.1, X.2.2.2.1, fun w h => by cases h⟩ (hC H.size) ⟨cw, hy, U _ hI rfl⟩ ⟨CN.blind (G := E0 D cI cS), fun U hU hW => ⟨rfl, by rw [hU], X.2.2.2.2.1.warm hW, hO.moved hW.alike, by rw [hU]; exact hP⟩⟩ rfl hn hl.1 hst (lv_room hro) hd hf) e1 e2 k
theorem z_ctorN (X : CX (E0 D cI cS) A p s m meth c own cc nL) (hA : ∀ q, s.heap.size ≤ q → A q) (hO : va_AO "RoastKeeper$State" s) {wr : va_W} {y : MethodName} {bytes : ByteArray} {maxL fr lo n idx a mc ms c2 s2 : Nat} {host : String} {As rest : List Value} {e0 : va_E} {W1 : (Nat → Nat) → va_W} (hC : CN D cI cS l y bytes maxL fr lo mc ms a As e0 W1) (hM : MF y bytes maxL none n) (hI : Cond.instanceMethod y ∈ lw_tbl) (hy : y.name = "<init>") (hw : Cond.methodLinkNest own idx y host ∈ lw_tbl) (hn : As.length = n) (hR : fr + 1 ≤ R.frames ∧ 8 + (maxL + 11) + lo ≤ R.locals) (hf : cells + mc ≤ R.cells ∧ slots + ms ≤ R.slots) (hst : st = As.reverse ++ .ref a :: rest) (hro : (rest.map fun v => v.category).sum ≤ 8) (e1 : cells + mc = c2) (e2 : slots + ms = s2) (hd : decode cc pc = .ok (.invokespecial idx, 3)) (k : ∀ u : Nat → Nat, VC D A p l e R s m args below meth c c2 s2 Q nL (wr ++ W1 u) (pc + 3) lv rest) : VC D A p l e R s m args below meth c cells slots Q nL (wr ++ [(a, e0)]) (pc) lv st := by
  have U := fun (w : Cond) (a : w ∈ lw_tbl) (b : gw w = true) => X.2.2.2.2.1.use (args := args) a b
  have cw : va_CN R s args own idx y host bytes maxL none [.code y bytes maxL none] { frames := fr, cells := mc, slots := ms, locals := lo } mc ms n := by
    refine ⟨⟨rfl, rfl, hR.1, hR.2, fun w h a' U' hW => ?_, List.mem_singleton.mpr rfl⟩, U _ hM.1 rfl, U _ hM.2.1 rfl, hM.2.2.1, fun sig h => ?_, U _ hw rfl⟩
    · rw [List.mem_singleton.mp h]
      exact va_Nw.use rfl (nw_warm hW rfl (X.2.2.2.2.1.2 _ hM.1 rfl))
    · have h2 := hM.2.2.2.1
      rw [h] at h2
      exact (Option.some.inj h2).symm
  exact z_after X hA (fun H locs ls hP hl => va_runIN (As := As) (rest := rest) (Ts := []) (nL := nL) ⟨X.1, X.2.1, X.2.2.1, X.2.2.2.1, fun w h => by cases h⟩ (hC H.size) ⟨cw, hy, U _ hI rfl⟩ ⟨CN.blind (G := E0 D cI cS), fun U hU hW => ⟨rfl, by rw [hU], X.2.2.2.2.1.warm hW, hO.moved hW.alike, by rw [hU]; exact hP⟩⟩ rfl hn hl.1 hst (lv_room hro) hd hf) e1 e2 k
end ZR
theorem z_vret {D : va_G} {cI cS : ClassId} {p : Program} {l : Launch} {e : Env} {R : Room} {s : State} {m : MethodId} {args : Array Value} {below : List Frame} {meth : Method} {c : Code} {nL : Nat} {own : String} {cc : ByteArray} {ws : va_W} {pc a mc ms : Nat} {lv : List (Nat × Value)} {e0 : va_E} {W1 : (Nat → Nat) → va_W} (X : CX (E0 D cI cS) (va_A [(a, e0)] s.heap.size) p s m meth c own cc nL) (hr : meth.sig.returnType = none) (hd : decode cc pc = .ok (.return_, 1)) (u : Nat → Nat) (hu : ∀ H, va_P D vwCl ws H → va_P D vwCl (W1 u) H) (hu2 : ∀ A, va_D A ws → va_D A (W1 u)) : VC D (va_A [(a, e0)] s.heap.size) p l e R s m args below meth c mc ms (MQ below (va_Qv (fun _ : Nat → Nat => True) (fun u t => va_P D vwCl (W1 u) t.heap ∧ va_D (va_A [(a, e0)] s.heap.size) (W1 u)) (va_A [(a, e0)] s.heap.size)) args s mc ms (va_A [(a, e0)] s.heap.size)) nL ws pc lv [] := fun H locs ls hP hD hS hl =>
  W.vret X.1 X.2.1 hr (fun t ht hW => ⟨⟨u, rfl, trivial, by rw [ht]; exact hu H hP, hu2 _ hD⟩, hS.F ht⟩) hS.2.2 hd X.2.2.2.2.2.2.2
theorem z_enter {D : va_G} {cI cS : ClassId} {l : Launch} {y : MethodName} {bytes : ByteArray} {maxL fr lo mc ms a n : Nat} {As : List Value} {e0 : va_E} {W1 : (Nat → Nat) → va_W} (hM : MF y bytes maxL none n) (hy : y.name = "<init>") (hav : (lg_sl (.ref a :: As)).length ≤ maxL)
    (body : ∀ (p : Program) (e : Env) (s : State) (m : MethodId) (below : List Frame) (meth : Method) (c : Code), CX (E0 D cI cS) (va_A [(a, e0)] s.heap.size) p s m meth c y.cls bytes maxL → meth.sig.returnType = none → meth.name = "<init>" → (∀ q, s.heap.size ≤ q → va_A [(a, e0)] s.heap.size q) → va_AO "RoastKeeper$State" s → VC D (va_A [(a, e0)] s.heap.size) p l e { frames := fr, cells := mc, slots := ms, locals := lo } s m (.ref a :: As : List Value).toArray below meth c 0 0 (MQ below (va_Qv (fun _ : Nat → Nat => True) (fun u t => va_P D vwCl (W1 u) t.heap ∧ va_D (va_A [(a, e0)] s.heap.size) (W1 u)) (va_A [(a, e0)] s.heap.size)) (.ref a :: As : List Value).toArray s mc ms (va_A [(a, e0)] s.heap.size)) maxL [(a, e0)] 0 (lv_args 0 (.ref a :: As)) []) : CN D cI cS l y bytes maxL fr lo mc ms a As e0 W1 := by
  intro sz
  refine Met.ofWF (cc := bytes) (maxL := maxL) (ret := none) hM.2.2.2.2 rfl ?_
  intro p e s m args below meth c s₁ B hml hv
  obtain ⟨rfl, hsz, hK, hO, hP⟩ := hv
  subst hsz
  have hown : s.vm.findClass y.cls = some m.cls := findClass_of_methodNamed B.named
  have hin : meth.name = "<init>" := ((name_of_methodNamed B.named B.method).1).trans hy
  have X : CX (E0 D cI cS) (va_A [(a, e0)] s.heap.size) p s m meth c y.cls bytes maxL := ⟨B.exec, B.bytes, hml, hown, hK, GOK0 D cI cS, fun g j h => absurd (ar_T14 j) h, B.notSynchronized⟩
  have hD : va_D (va_A [(a, e0)] s.heap.size) [(a, e0)] := ⟨fun i j p q hi hj _ => by
    have h1 : i < 1 := (List.getElem?_eq_some_iff.mp hi).1
    have h2 : j < 1 := (List.getElem?_eq_some_iff.mp hj).1
    omega, fun k q hk => va_A.in hk⟩
  have hl := lv_entry (.ref a :: As) (n := maxL) hav
  rw [lg_entry_eq]
  exact body p e s m below meth c X B.returns hin (fun q h => Or.inr h) hO s.heap [] _ hP hD va_S.rf hl
