theorem z_astore_n {D : va_G} {cI cS : ClassId} {A : Nat → Prop} {p : Program} {l : Launch} {e : Env} {R : Room} {s : State} {m : MethodId} {args : Array Value} {below : List Frame} {meth : Method} {c : Code} {cells slots : Nat} {Q : State → Prop} {nL : Nat} {own : String} {cc : ByteArray} {ws : va_W} {pc : Nat} {lv : List (Nat × Value)} {st : List Value} (X : CX (E0 D cI cS) A p s m meth c own cc nL) {i : Fin 4} {x : Nat} {lv' : List (Nat × Value)} (hd : decode cc pc = .ok (.astore_n i, 1)) (hn : (i : Nat) < nL) (hv : ((i : Nat), Value.ref x) :: lv.filter (fun q => !(q.1 == (i : Nat)) && !(q.1 + 1 == (i : Nat) && q.2.category == 2)) = lv') (k : VC D A p l e R s m args below meth c cells slots Q nL ws (pc + 1) lv' (st)) : VC D A p l e R s m args below meth c cells slots Q nL ws (pc) lv (.ref x :: st) := fun H locs ls hP hD hS hl => lv_astore_n X.1 X.2.1 hd rfl hl hn hv (fun ls hl => k H locs ls hP hD hS hl)
/-- the law's arena -/
def gaL (x : Nat) (u : Nat → Nat) (y : Nat) (v : Nat → Nat) : Nat → Nat → Nat := fun g j => if g < 36 then gaK x u g j else gaM y v g j
theorem arT42 : ∀ g, 42 ≤ g → ar_T g = 14 := fun g hg => by
  unfold ar_T
  rw [List.getD_eq_getElem?_getD, List.getElem?_eq_none (by show 42 ≤ g; exact hg)]
  rfl
theorem arLL (D : va_G) (cI cS : ClassId) (ga : Nat → Nat → Nat) : ar_L (D, cI, cS, ar_T, ga) = [(0, 0), (1, 0), (2, 0), (2, 1), (2, 2), (2, 3), (3, 0), (3, 1), (3, 2), (4, 0), (4, 1), (4, 2), (5, 0), (5, 1), (6, 0), (6, 1), (6, 2), (6, 3), (7, 0), (7, 1), (8, 0), (9, 0), (9, 1), (9, 2), (10, 0), (10, 1), (11, 0), (12, 0), (12, 1), (12, 2), (12, 3), (13, 0), (13, 1), (13, 2), (14, 0), (14, 1), (14, 2), (15, 0), (15, 1), (16, 0), (17, 0), (17, 1), (17, 2), (17, 3), (18, 0), (18, 1), (18, 2), (19, 0), (19, 1), (19, 2), (20, 0), (20, 1), (21, 0), (22, 0), (22, 1), (22, 2), (22, 3), (23, 0), (23, 1), (23, 2), (24, 0), (24, 1), (24, 2), (25, 0), (25, 1), (26, 0), (27, 0), (27, 1), (27, 2), (27, 3), (28, 0), (28, 1), (28, 2), (29, 0), (29, 1), (29, 2), (30, 0), (30, 1), (31, 0), (32, 0), (32, 1), (32, 2), (32, 3), (33, 0), (33, 1), (33, 2), (34, 0), (34, 1), (34, 2), (35, 0), (35, 1), (36, 0), (37, 0), (38, 0), (39, 0), (40, 0), (41, 0)] := by
  show ((List.range 168).filter (fun n => (ar_cell (ar_T (n / 4)) (n % 4)).isSome)).map (fun n => (n / 4, n % 4)) = _
  decide +kernel
set_option maxRecDepth 100000 in
set_option maxHeartbeats 8000000 in
theorem wlL {D : va_G} {cI cS : ClassId} {x y : Nat} {u v : Nat → Nat} {h9 h10 : Hp} : wl (D, cI, cS, ar_T, gaL x u y v) (fun g => if g < 36 then h9 g else h10 g) = (wl (D, cI, cS, T9, gaK x u) h9).set 25 (u 37, .inl (cS, 5, .inr (.inr (.inr (.inr (fun k => some (gaL x u y v (11 + 5 * k) 0))))))) ++ wl (D, cI, cS, T10, gaM y v) h10 := by
  unfold wl
  rw [arLL, arL9, arL10]
  rfl
set_option maxRecDepth 100000 in
set_option maxHeartbeats 8000000 in
theorem wl9q {D : va_G} {cI cS : ClassId} {x : Nat} {u : Nat → Nat} : (wl (D, cI, cS, T9, gaK x u) hK4)[25]? = some (u 37, .inl (cS, 5, .inr (.inr (.inr (.inr (fun k => some (gaK x u (11 + 5 * k) 0))))))) := by
  unfold wl
  rw [arL9]
  rfl
theorem va_P_swp {D : va_G} {w1 w2 : va_W} {i q : Nat} {cS : ClassId} {f g : Nat → Option Nat} {H : Heap} (hi : w1[i]? = some (q, .inl (cS, 5, .inr (.inr (.inr (.inr f)))))) (hfg : ∀ k, k < 5 → f k = g k) (h : va_P D vwCl (w1 ++ w2) H) : va_P D vwCl (w1.set i (q, .inl (cS, 5, .inr (.inr (.inr (.inr g))))) ++ w2) H := by
  have hl := (List.getElem?_eq_some_iff.mp hi).1
  rw [va_P.mem] at h ⊢
  intro z hz
  rcases List.mem_append.mp hz with hz | hz
  · obtain ⟨k, hk⟩ := List.getElem?_of_mem hz
    by_cases c : k = i
    · subst c
      rw [List.getElem?_set_self hl] at hk
      cases hk
      exact arr5 hfg (h _ (List.mem_append_left _ (List.mem_of_getElem? hi)))
    · rw [List.getElem?_set_ne (Ne.symm c)] at hk
      exact h z (List.mem_append_left _ (List.mem_of_getElem? hk))
  · exact h z (List.mem_append_right _ hz)
theorem va_D_swp {A : Nat → Prop} {w1 w2 : va_W} {i q : Nat} {e e2 : va_E} (hi : w1[i]? = some (q, e)) (h : va_D A (w1 ++ w2)) : va_D A (w1.set i (q, e2) ++ w2) := by
  have hl := (List.getElem?_eq_some_iff.mp hi).1
  refine h.perm ?_
  have e1 : (w1.set i (q, e2)).map Prod.fst = w1.map Prod.fst := by
    apply List.ext_getElem?
    intro k
    rw [List.getElem?_map, List.getElem?_map]
    by_cases c : k = i
    · subst c
      rw [List.getElem?_set_self hl, hi]
      rfl
    · rw [List.getElem?_set_ne (Ne.symm c)]
  rw [List.map_append, List.map_append, e1]
