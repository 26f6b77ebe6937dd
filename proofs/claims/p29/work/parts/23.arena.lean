theorem va_P.mem {D : va_G} {cl : List vw_C} {ws : va_W} {H : Heap} : va_P D cl ws H ↔ ∀ q ∈ ws, va_at D cl q H := ⟨fun h q hq => by
  obtain ⟨k, hk⟩ := List.getElem?_of_mem hq
  exact h k q hk, fun h k q hk => h q (List.mem_of_getElem? hk)⟩
theorem va_D.nd {A : Nat → Prop} {ws : va_W} : va_D A ws ↔ (ws.map Prod.fst).Nodup ∧ ∀ a ∈ ws.map Prod.fst, A a := by
  constructor
  · intro h
    refine ⟨List.pairwise_iff_getElem.mpr (fun i j hi hj hij e => ?_), fun a ha => ?_⟩
    · rw [List.getElem_map, List.getElem_map] at e
      rw [List.length_map] at hi hj
      have := h.1 i j _ _ (List.getElem?_eq_getElem hi) (List.getElem?_eq_getElem hj) e
      omega
    · obtain ⟨q, hq, rfl⟩ := List.mem_map.mp ha
      obtain ⟨k, hk⟩ := List.getElem?_of_mem hq
      exact h.2 k q hk
  · intro h
    refine ⟨fun i j p q hi hj e => ?_, fun k q hk => h.2 _ (List.mem_map.mpr ⟨q, List.mem_of_getElem? hk, rfl⟩)⟩
    obtain ⟨l1, v1⟩ := List.getElem?_eq_some_iff.mp hi
    obtain ⟨l2, v2⟩ := List.getElem?_eq_some_iff.mp hj
    refine (List.getElem_inj (h₀ := by rw [List.length_map]; exact l1) (h₁ := by rw [List.length_map]; exact l2) h.1).mp ?_
    rw [List.getElem_map, List.getElem_map, v1, v2]
    exact e
theorem va_D.perm {A : Nat → Prop} {ws ws2 : va_W} (hp : (ws.map Prod.fst).Perm (ws2.map Prod.fst)) (h : va_D A ws) : va_D A ws2 := by
  obtain ⟨h1, h2⟩ := va_D.nd.mp h
  exact va_D.nd.mpr ⟨hp.nodup h1, fun a ha => h2 a (hp.mem_iff.mpr ha)⟩
theorem GOK_of {G : Geo} {A : Nat → Prop} {h : Hp} (h42 : ∀ g, 42 ≤ g → gT G g = 14) (d : va_D A (wl G h)) : GOK G ∧ ∀ g j, ar_cell (gT G g) j ≠ none → A (gA G g j) := by
  have mem : ∀ g j, ar_cell (gT G g) j ≠ none → ∃ i : Nat, (ar_L G)[i]? = some (g, j) ∧ (wl G h)[i]? = some (gA G g j, ar_e G h g j) := by
    intro g j hc
    have hg : g < 42 := by
      rcases Nat.lt_or_ge g 42 with q | q
      · exact q
      · rw [h42 g q] at hc
        exact absurd (ar_T14 j) hc
    have hj := ar_j hc
    have hm : (g, j) ∈ ar_L G := by
      refine List.mem_map.mpr ⟨4 * g + j, List.mem_filter.mpr ⟨List.mem_range.mpr (by omega), ?_⟩, ?_⟩
      · rw [show (4 * g + j) / 4 = g by omega, show (4 * g + j) % 4 = j by omega]
        cases hc2 : ar_cell (gT G g) j with
        | none => exact absurd hc2 hc
        | some x => rfl
      · show ((4 * g + j) / 4, (4 * g + j) % 4) = (g, j)
        rw [show (4 * g + j) / 4 = g by omega, show (4 * g + j) % 4 = j by omega]
    obtain ⟨i, hi⟩ := List.getElem?_of_mem hm
    refine ⟨i, hi, ?_⟩
    simp only [wl, List.getElem?_map, hi]
    rfl
  refine ⟨⟨fun g j g' j' h1 h2 e => ?_, h42⟩, fun g j h1 => ?_⟩
  · obtain ⟨i, a1, a2⟩ := mem g j h1
    obtain ⟨i', b1, b2⟩ := mem g' j' h2
    have ei := d.1 i i' _ _ a2 b2 e
    subst ei
    have := Option.some.inj (a1.symm.trans b1)
    exact ⟨congrArg Prod.fst this, congrArg Prod.snd this⟩
  · obtain ⟨i, a1, a2⟩ := mem g j h1
    exact d.2 i _ a2
/-- the world of a list becomes an arena -/
theorem z_arena {D : va_G} {cI cS : ClassId} {A : Nat → Prop} {p : Program} {l : Launch} {e : Env} {R : Room} {s : State} {m : MethodId} {args : Array Value} {below : List Frame} {meth : Method} {c : Code} {cells slots : Nat} {Q : State → Prop} {nL : Nat} {own : String} {cc : ByteArray} {ws : va_W} {pc : Nat} {lv : List (Nat × Value)} {st : List Value} (X : CX (E0 D cI cS) A p s m meth c own cc nL) {T : Nat → Nat} {ga : Nat → Nat → Nat} {h : Hp} (h42 : ∀ g, 42 ≤ g → T g = 14) (hP : ∀ H, va_P D vwCl ws H → va_P D vwCl (wl (D, cI, cS, T, ga) h) H) (hD : va_D A ws → va_D A (wl (D, cI, cS, T, ga) h)) (k : CX (D, cI, cS, T, ga) A p s m meth c own cc nL → va_D A (wl (D, cI, cS, T, ga) h) → VV (D, cI, cS, T, ga) A p l e R s m args below meth c cells slots Q nL h pc lv st) : VC D A p l e R s m args below meth c cells slots Q nL ws pc lv st := fun H locs ls hP0 hD0 hS hl => by
  have d := hD hD0
  obtain ⟨g1, g2⟩ := GOK_of (G := (D, cI, cS, T, ga)) h42 d
  exact k ⟨X.1, X.2.1, X.2.2.1, X.2.2.2.1, X.2.2.2.2.1, g1, g2, X.2.2.2.2.2.2.2⟩ d H locs ls (hP H hP0) hS hl
theorem arr5 {D : va_G} {cl : List vw_C} {q : Nat} {cS : ClassId} {f g : Nat → Option Nat} {H : Heap} (hfg : ∀ k, k < 5 → f k = g k) (h : va_at D cl (q, .inl (cS, 5, .inr (.inr (.inr (.inr f))))) H) : va_at D cl (q, .inl (cS, 5, .inr (.inr (.inr (.inr g))))) H := by
  show H[q]? = some (arrV cS 5 (fun j => va_rf (g j)))
  have h1 : H[q]? = some (arrV cS 5 (fun j => va_rf (f j))) := h
  rw [h1]
  unfold arrV
  congr 3
  funext j
  exact congrArg va_rf (hfg j.val j.isLt)
/-- the class's arena: addresses, types, rows -/
def gaK (a : Nat) (u : Nat → Nat) : Nat → Nat → Nat := fun g j => match g with
  | 0 => a
  | g + 1 => u (4 * g + j)
def T9 : Nat → Nat := fun g => ([0, 1, 2, 3, 3, 5, 2, 6, 7, 3, 8, 1, 2, 3, 3, 5, 1, 2, 3, 3, 5, 1, 2, 3, 3, 5, 1, 2, 3, 3, 5, 1, 2, 3, 3, 5] : List Nat).getD g 14
def rTICK : Nat → Int32 := fun p => match p with
  | 0 => -1
  | _ => 0
def hINI : Hp := fun g => match T9 g with
  | 2 => rINI
  | 7 => rTICK
  | _ => fun _ => 0
theorem T9_42 : ∀ g, 36 ≤ g → T9 g = 14 := fun g hg => by
  unfold T9
  rw [List.getD_eq_getElem?_getD, List.getElem?_eq_none (by show 36 ≤ g; exact hg)]
  rfl
theorem arL9 (D : va_G) (cI cS : ClassId) (ga : Nat → Nat → Nat) : ar_L (D, cI, cS, T9, ga) = [(0, 0), (1, 0), (2, 0), (2, 1), (2, 2), (2, 3), (3, 0), (3, 1), (3, 2), (4, 0), (4, 1), (4, 2), (5, 0), (5, 1), (6, 0), (6, 1), (6, 2), (6, 3), (7, 0), (7, 1), (8, 0), (9, 0), (9, 1), (9, 2), (10, 0), (10, 1), (11, 0), (12, 0), (12, 1), (12, 2), (12, 3), (13, 0), (13, 1), (13, 2), (14, 0), (14, 1), (14, 2), (15, 0), (15, 1), (16, 0), (17, 0), (17, 1), (17, 2), (17, 3), (18, 0), (18, 1), (18, 2), (19, 0), (19, 1), (19, 2), (20, 0), (20, 1), (21, 0), (22, 0), (22, 1), (22, 2), (22, 3), (23, 0), (23, 1), (23, 2), (24, 0), (24, 1), (24, 2), (25, 0), (25, 1), (26, 0), (27, 0), (27, 1), (27, 2), (27, 3), (28, 0), (28, 1), (28, 2), (29, 0), (29, 1), (29, 2), (30, 0), (30, 1), (31, 0), (32, 0), (32, 1), (32, 2), (32, 3), (33, 0), (33, 1), (33, 2), (34, 0), (34, 1), (34, 2), (35, 0), (35, 1)] := by
  show ((List.range 168).filter (fun n => (ar_cell (T9 (n / 4)) (n % 4)).isSome)).map (fun n => (n / 4, n % 4)) = _
  decide +kernel
def wX1q (cI cS : ClassId) (a : Nat) (u : Nat → Nat) (f : Nat → Option Nat) : va_W := ((((([(a, .inr (1, [.ref (u 0), .int 0, .int 0]))] ++ [(u 0, .inl (cS, 5, .inr (.inr (.inr (.inr f)))))]) ++ wX7 cI (u 1) (fun k => u (2 + k))) ++ wX7 cI (u 14) (fun k => u (15 + k))) ++ wX7 cI (u 27) (fun k => u (28 + k))) ++ wX7 cI (u 40) (fun k => u (41 + k))) ++ wX7 cI (u 53) (fun k => u (54 + k))
theorem wX1_f {D : va_G} {cI cS : ClassId} {a : Nat} {u : Nat → Nat} {f : Nat → Option Nat} {H : Heap} (hf : ∀ k, k < 5 → fX1 u k = f k) (h : va_P D vwCl (wX1 cI cS a u) H) : va_P D vwCl (wX1q cI cS a u f) H := by
  intro k q hk
  by_cases c : k = 1
  · subst c
    have e : (wX1q cI cS a u f)[1]? = some (u 0, .inl (cS, 5, .inr (.inr (.inr (.inr f))))) := rfl
    rw [e] at hk
    cases hk
    exact arr5 hf (h 1 _ rfl)
  · refine h k q ?_
    rw [← hk]
    unfold wX1 wX1q
    cases k with
    | zero => rfl
    | succ k =>
      cases k with
      | zero => exact absurd rfl c
      | succ k => rfl
theorem va_P.blocks {D : va_G} {H : Heap} {k b c d e b2 : va_W} (hb : va_P D vwCl b H → va_P D vwCl b2 H) (h : va_P D vwCl ((((k ++ b) ++ c) ++ d) ++ e) H) : va_P D vwCl ((((k ++ e) ++ c) ++ d) ++ b2) H := by
  rw [va_P.mem] at h
  have hb' := hb (va_P.mem.mpr (fun q hq => h q (by simp only [List.mem_append]; exact Or.inl (Or.inl (Or.inl (Or.inr hq))))))
  rw [va_P.mem] at hb' ⊢
  intro q hq
  simp only [List.mem_append] at hq
  rcases hq with (((hq | hq) | hq) | hq) | hq
  · exact h q (by simp only [List.mem_append]; exact Or.inl (Or.inl (Or.inl (Or.inl hq))))
  · exact h q (by simp only [List.mem_append]; exact Or.inr hq)
  · exact h q (by simp only [List.mem_append]; exact Or.inl (Or.inl (Or.inr hq)))
  · exact h q (by simp only [List.mem_append]; exact Or.inl (Or.inr hq))
  · exact hb' q hq
theorem va_D.blocks {A : Nat → Prop} {k b c d e b2 : va_W} (hb : b2.map Prod.fst = b.map Prod.fst) (h : va_D A ((((k ++ b) ++ c) ++ d) ++ e)) : va_D A ((((k ++ e) ++ c) ++ d) ++ b2) := by
  refine h.perm ?_
  simp only [List.map_append, hb, List.append_assoc]
  refine List.Perm.append_left _ ?_
  generalize b.map Prod.fst = b'
  generalize c.map Prod.fst = c'
  generalize d.map Prod.fst = d'
  generalize e.map Prod.fst = e'
  have p1 : (b' ++ (c' ++ (d' ++ e'))).Perm ((c' ++ (d' ++ e')) ++ b') := List.perm_append_comm
  have p2 : (c' ++ (d' ++ e')).Perm (e' ++ (c' ++ d')) := by
    have := List.perm_append_comm (l₁ := c' ++ d') (l₂ := e')
    rwa [List.append_assoc] at this
  refine p1.trans ((p2.append_right b').trans ?_)
  simp only [List.append_assoc]
  exact List.Perm.refl _
set_option maxRecDepth 100000 in
set_option maxHeartbeats 8000000 in
theorem wl9 {D : va_G} {cI cS : ClassId} {a q1 qh qt qr qo : Nat} {u1 uh ut ur uo u : Nat → Nat} (eu : u = fun n => ([q1, 0, 0, 0, u1 0, u1 1, u1 2, u1 3, u1 4, u1 5, u1 6, 0, u1 7, u1 8, u1 9, 0, u1 10, u1 11, 0, 0, qo, uo 0, uo 1, uo 2, qt, ut 0, 0, 0, qr, 0, 0, 0, ur 0, ur 1, ur 2, 0, qh, uh 0, 0, 0, uh 1, 0, 0, 0, uh 2, uh 3, uh 4, uh 5, uh 6, uh 7, uh 8, 0, uh 9, uh 10, uh 11, 0, uh 12, uh 13, 0, 0, uh 14, 0, 0, 0, uh 15, uh 16, uh 17, uh 18, uh 19, uh 20, uh 21, 0, uh 22, uh 23, uh 24, 0, uh 25, uh 26, 0, 0, uh 27, 0, 0, 0, uh 28, uh 29, uh 30, uh 31, uh 32, uh 33, uh 34, 0, uh 35, uh 36, uh 37, 0, uh 38, uh 39, 0, 0, uh 40, 0, 0, 0, uh 41, uh 42, uh 43, uh 44, uh 45, uh 46, uh 47, 0, uh 48, uh 49, uh 50, 0, uh 51, uh 52, 0, 0, uh 53, 0, 0, 0, uh 54, uh 55, uh 56, uh 57, uh 58, uh 59, uh 60, 0, uh 61, uh 62, uh 63, 0, uh 64, uh 65, 0, 0, 0, 0, 0, 0, 0, 0, 0, 0, 0, 0, 0, 0, 0, 0, 0, 0, 0, 0, 0, 0, 0, 0, 0, 0] : List Nat).getD n 0) : wl (D, cI, cS, T9, gaK a u) hINI = ((((([(a, .inr (9, [.ref q1, .ref (u1 0), .ref (u1 1), .ref (u1 4), .ref (u1 7), .ref (u1 10), .ref qh, .ref qt, .ref qr, .ref qo]))] ++ wX7 cI q1 u1) ++ wX4 cI qo uo) ++ wX8 cI qt ut) ++ wX3 cI qr ur) ++ wX1q cI cS qh uh (fun k => some (gaK a u (11 + 5 * k) 0))) := by
  unfold wl
  rw [arL9]
  subst eu
  rfl
