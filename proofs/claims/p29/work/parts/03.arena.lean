/-! THE ARENA: every cell that class and reference ever make stands in a GROUP (a number); a group has a type; a type says which cells it has and where, in the group's one row of ints (Nat → Int32), each int of a cell lies. The whole changing state is h : group → place → Int32; all references are fixed. -/
abbrev Hp : Type := Nat → Nat → Int32
abbrev ar_F : Type := Nat ⊕ (Nat × Nat)
abbrev ar_C : Type := (Nat × List ar_F) ⊕ ((Nat × Nat) ⊕ Unit)
/-- the cells of a type: an object (its class, its fields: an int's place, or the group, told from this one, and cell that it points to), an int array (first place, step), or the array of states -/
def ar_cell (T j : Nat) : Option ar_C := match T, j with
  | 0, 0 => some (.inl (9, [.inr (1, 0), .inr (2, 0), .inr (2, 1), .inr (3, 0), .inr (4, 0), .inr (5, 0), .inr (10, 0), .inr (7, 0), .inr (8, 0), .inr (6, 0)]))
  | 1, 0 => some (.inl (7, [.inr (1, 0), .inr (2, 0), .inr (3, 0), .inr (4, 0)]))
  | 2, 0 => some (.inl (4, [.inr (0, 1), .inr (0, 2), .inl 0, .inl 1, .inl 2, .inl 4, .inl 7, .inl 13]))
  | 2, 1 => some (.inl (5, [.inl 3, .inl 9, .inl 10, .inl 11, .inl 12, .inl 5, .inl 6, .inl 14, .inl 15, .inl 8]))
  | 2, 2 => some (.inl (0, [.inl 16, .inl 17, .inl 18, .inl 19, .inl 20, .inr (0, 3), .inl 23, .inl 24, .inl 25]))
  | 2, 3 => some (.inr (.inl (26, 1)))
  | 3, 0 => some (.inl (6, [.inr (0, 1), .inr (0, 2), .inl 0]))
  | 3, 1 => some (.inr (.inl (1, 2)))
  | 3, 2 => some (.inr (.inl (2, 2)))
  | 5, 0 => some (.inl (2, [.inr (0, 1), .inl 1, .inl 0]))
  | 5, 1 => some (.inr (.inl (2, 1)))
  | 6, 0 => some (.inl (8, [.inr (0, 1), .inl 0]))
  | 6, 1 => some (.inr (.inl (1, 1)))
  | 7, 0 => some (.inl (3, [.inr (1, 0), .inl 0]))
  | 8, 0 => some (.inl (1, [.inr (0, 1), .inl 0, .inl 1]))
  | 8, 1 => some (.inr (.inr ()))
  | 9, 0 => some (.inl (10, [.inl 0, .inr (1, 0), .inr (2, 0), .inr (3, 0), .inl 1, .inr (4, 0), .inl 2, .inl 3, .inl 4, .inr (5, 0)]))
  | 10, 0 => some (.inr (.inl (0, 1)))
  | 11, 0 => some (.inr (.inl (0, 1)))
  | 12, 0 => some (.inr (.inl (0, 1)))
  | 13, 0 => some (.inr (.inl (0, 1)))
  | _, _ => none
/-- how long the int arrays of a group are -/
def ar_n (T g : Nat) : Nat := match T with
  | 2 => 6
  | 3 => if g = 4 ∨ (11 ≤ g ∧ g % 5 = 4) then 6 else 8
  | 5 => 48
  | 6 => 100
  | 10 => 112
  | 11 => 560
  | 12 => 100
  | 13 => 16
  | _ => 0
def ar_uses (T j sl : Nat) : Bool := match ar_cell T j with
  | some (.inl q) => q.2.any (fun f => match f with | .inl k => k == sl | .inr _ => false)
  | some (.inr (.inl q)) => decide (q.1 ≤ sl) && decide ((sl - q.1) % q.2 = 0)
  | _ => false
theorem ar_j {T j : Nat} (h : ar_cell T j ≠ none) : j < 4 := by
  unfold ar_cell at h
  split at h <;> first | omega | exact absurd rfl h
theorem ar_T14 (j : Nat) : ar_cell 14 j = none := rfl
/-- the ground: the tables' class and slot numbers, the int arrays' class, the array of states' class, the groups' types, the addresses -/
abbrev Geo : Type := va_G × ClassId × ClassId × (Nat → Nat) × (Nat → Nat → Nat)
def gD (G : Geo) : va_G := G.1
def gI (G : Geo) : ClassId := G.2.1
def gS (G : Geo) : ClassId := G.2.2.1
def gT (G : Geo) : Nat → Nat := G.2.2.2.1
def gA (G : Geo) : Nat → Nat → Nat := G.2.2.2.2
def ar_f (G : Geo) (h : Hp) (g : Nat) (f : ar_F) : Value := match f with
  | .inl k => .int (h g k)
  | .inr q => .ref (gA G (g + q.1) q.2)
def ar_x (G : Geo) (h : Hp) (g : Nat) (c : Option ar_C) : va_E := match c with
  | some (.inl q) => .inr (q.1, q.2.map (ar_f G h g))
  | some (.inr (.inl q)) => .inl (gI G, ar_n (gT G g) g, .inl (fun k => h g (q.1 + q.2 * k)))
  | some (.inr (.inr _)) => .inl (gS G, 5, .inr (.inr (.inr (.inr (fun k => some (gA G (11 + 5 * k) 0))))))
  | none => .inr (0, [])
def ar_e (G : Geo) (h : Hp) (g j : Nat) : va_E := ar_x G h g (ar_cell (gT G g) j)
def ar_L (G : Geo) : List (Nat × Nat) := ((List.range 168).filter (fun n => (ar_cell (gT G (n / 4)) (n % 4)).isSome)).map (fun n => (n / 4, n % 4))
def wl (G : Geo) (h : Hp) : va_W := (ar_L G).map (fun c => (gA G c.1 c.2, ar_e G h c.1 c.2))
def GOK (G : Geo) : Prop := (∀ g j g' j' : Nat, ar_cell (gT G g) j ≠ none → ar_cell (gT G g') j' ≠ none → gA G g j = gA G g' j' → g = g' ∧ j = j') ∧ ∀ g, 42 ≤ g → gT G g = 14
theorem ar_mem {G : Geo} (hG : GOK G) {g j : Nat} (h : ar_cell (gT G g) j ≠ none) : (g, j) ∈ ar_L G := by
  have hg : g < 42 := by
    rcases Nat.lt_or_ge g 42 with q | q
    · exact q
    · rw [hG.2 g q] at h
      exact absurd (ar_T14 j) h
  have hj := ar_j h
  refine List.mem_map.mpr ⟨4 * g + j, List.mem_filter.mpr ⟨List.mem_range.mpr (by omega), ?_⟩, ?_⟩
  · rw [show (4 * g + j) / 4 = g by omega, show (4 * g + j) % 4 = j by omega]
    cases hc : ar_cell (gT G g) j with
    | none => exact absurd hc h
    | some x => rfl
  · show ((4 * g + j) / 4, (4 * g + j) % 4) = (g, j)
    rw [show (4 * g + j) / 4 = g by omega, show (4 * g + j) % 4 = j by omega]
theorem ar_mem' {G : Geo} {c : Nat × Nat} (h : c ∈ ar_L G) : ar_cell (gT G c.1) c.2 ≠ none := by
  obtain ⟨n, hn, rfl⟩ := List.mem_map.mp h
  have h1 := (List.mem_filter.mp hn).2
  intro z
  have z1 : ar_cell (gT G (n / 4)) (n % 4) = none := z
  rw [z1] at h1
  cases h1
theorem ar_nd (G : Geo) : (ar_L G).Nodup := by
  unfold ar_L
  refine List.pairwise_map.mpr ((List.nodup_range.filter _).imp (fun {a b} hne hab => hne ?_))
  have h1 : a / 4 = b / 4 := congrArg Prod.fst hab
  have h2 : a % 4 = b % 4 := congrArg Prod.snd hab
  omega
theorem wl_get {G : Geo} (hG : GOK G) (h : Hp) {g j : Nat} (hc : ar_cell (gT G g) j ≠ none) : ∃ k : Nat, (wl G h)[k]? = some (gA G g j, ar_e G h g j) := by
  apply List.getElem?_of_mem
  exact List.mem_map.mpr ⟨(g, j), ar_mem hG hc, rfl⟩
theorem wl_set {G : Geo} (hG : GOK G) {A : Nat → Prop} {h h' : Hp} (hD : va_D A (wl G h)) {g j k : Nat} {e : va_E} (hc : ar_cell (gT G g) j ≠ none) (hk : (wl G h)[k]? = some (gA G g j, ar_e G h g j)) (he : e = ar_e G h' g j) (ho : ∀ g' j' : Nat, ar_cell (gT G g') j' ≠ none → (g' = g ∧ j' = j → False) → ar_e G h' g' j' = ar_e G h g' j') : (wl G h).set k (gA G g j, e) = wl G h' := by
  subst he
  have hl := (List.getElem?_eq_some_iff.mp hk).1
  apply List.ext_getElem?
  intro i
  by_cases hi : i = k
  · subst hi
    rw [List.getElem?_set_self hl]
    simp only [wl, List.getElem?_map] at hk ⊢
    cases hb : (ar_L G)[i]? with
    | none => rw [hb] at hk; cases hk
    | some b =>
      rw [hb] at hk
      have h1 : gA G b.1 b.2 = gA G g j := congrArg Prod.fst (Option.some.inj hk)
      obtain ⟨e1, e2⟩ := hG.1 b.1 b.2 g j (ar_mem' (List.mem_of_getElem? hb)) hc h1
      show some (gA G g j, ar_e G h' g j) = some (gA G b.1 b.2, ar_e G h' b.1 b.2)
      rw [e1, e2]
  · rw [List.getElem?_set_ne (Ne.symm hi)]
    simp only [wl, List.getElem?_map]
    cases hb : (ar_L G)[i]? with
    | none => rfl
    | some b =>
      show some (gA G b.1 b.2, ar_e G h b.1 b.2) = some (gA G b.1 b.2, ar_e G h' b.1 b.2)
      rw [ho b.1 b.2 (ar_mem' (List.mem_of_getElem? hb)) (fun z => ?_)]
      have h2 : (wl G h)[i]? = some (gA G b.1 b.2, ar_e G h b.1 b.2) := by
        simp only [wl, List.getElem?_map, hb]
        rfl
      exact hi (hD.1 i k _ _ h2 hk (by rw [z.1, z.2]))
theorem ar_cong {G : Geo} {h h' : Hp} {g j : Nat} (hu : ∀ sl, ar_uses (gT G g) j sl = true → h' g sl = h g sl) : ar_e G h' g j = ar_e G h g j := by
  unfold ar_e
  unfold ar_uses at hu
  cases hc : ar_cell (gT G g) j with
  | none => rfl
  | some x =>
    rw [hc] at hu
    rcases x with q | q | q
    · show Sum.inr (q.1, q.2.map (ar_f G h' g)) = Sum.inr (q.1, q.2.map (ar_f G h g))
      congr 2
      apply List.map_congr_left
      intro f hf
      cases f with
      | inr z => rfl
      | inl k => 
        show Value.int (h' g k) = Value.int (h g k)
        rw [hu k (List.any_eq_true.mpr ⟨_, hf, by simp⟩)]
    · show Sum.inl (gI G, ar_n (gT G g) g, Sum.inl (fun k => h' g (q.1 + q.2 * k))) = Sum.inl (gI G, ar_n (gT G g) g, Sum.inl (fun k => h g (q.1 + q.2 * k)))
      congr 4
      funext k
      refine hu _ ?_
      show (decide (q.1 ≤ q.1 + q.2 * k) && decide ((q.1 + q.2 * k - q.1) % q.2 = 0)) = true
      rw [Nat.add_sub_cancel_left, Nat.mul_mod_right]
      simp
    · rfl
/-- one int written: the group's row, and the place -/
def hset (h : Hp) (g k : Nat) (v : Int32) : Hp := va_up h g (va_up (h g) k v)
theorem hset_eq (h : Hp) (g k : Nat) (v : Int32) : hset h g k v g k = v := by simp [hset, va_up]
theorem hset_ne (h : Hp) (g k : Nat) (v : Int32) {g' k' : Nat} (hn : g' = g ∧ k' = k → False) : hset h g k v g' k' = h g' k' := by
  unfold hset va_up
  by_cases h1 : g' = g
  · subst h1
    by_cases h2 : k' = k
    · exact absurd ⟨rfl, h2⟩ hn
    · simp [h2]
  · simp [h1]
/-- is a place of a type used by one cell alone, and there at one field alone -/
def ar_one (T j sl : Nat) : Bool := (List.range 4).all (fun j' => j' == j || !ar_uses T j' sl)
theorem ar_one_use {T j sl j' : Nat} (h : ar_one T j sl = true) (hn : j' ≠ j) (hc : ar_cell T j' ≠ none) : ar_uses T j' sl = false := by
  have h1 := List.all_eq_true.mp h j' (List.mem_range.mpr (ar_j hc))
  simpa [hn] using h1
theorem hset_oth {G : Geo} {h : Hp} {g j sl : Nat} {v : Int32} (h1 : ar_one (gT G g) j sl = true) (g' j' : Nat) (hc : ar_cell (gT G g') j' ≠ none) (hn : g' = g ∧ j' = j → False) : ar_e G (hset h g sl v) g' j' = ar_e G h g' j' := by
  refine ar_cong (fun s hs => hset_ne _ _ _ _ (fun z => ?_))
  obtain ⟨rfl, rfl⟩ := z
  by_cases hj : j' = j
  · exact hn ⟨rfl, hj⟩
  · rw [ar_one_use h1 hj hc] at hs
    cases hs
/-- an object's int field -/
theorem hset_obj {G : Geo} {h : Hp} {g j sl k ci : Nat} {fs : List ar_F} {v : Int32} (hc : ar_cell (gT G g) j = some (.inl (ci, fs))) (hk : fs[k]? = some (.inl sl)) (hu : (List.range fs.length).all (fun i => i == k || !decide (fs[i]? = some (.inl sl))) = true) : (.inr (ci, (fs.map (ar_f G h g)).set k (.int v)) : va_E) = ar_e G (hset h g sl v) g j := by
  unfold ar_e
  rw [hc]
  show Sum.inr (ci, (fs.map (ar_f G h g)).set k (.int v)) = Sum.inr (ci, fs.map (ar_f G (hset h g sl v) g))
  congr 2
  apply List.ext_getElem?
  intro i
  have hl := (List.getElem?_eq_some_iff.mp hk).1
  by_cases hi : i = k
  · subst hi
    rw [List.getElem?_set_self (by rw [List.length_map]; exact hl), List.getElem?_map, hk]
    show some (Value.int v) = some (Value.int (hset h g sl v g sl))
    rw [hset_eq]
  · rw [List.getElem?_set_ne (Ne.symm hi), List.getElem?_map, List.getElem?_map]
    cases hf : fs[i]? with
    | none => rfl
    | some f =>
      have hil := (List.getElem?_eq_some_iff.mp hf).1
      have h1 := List.all_eq_true.mp hu i (List.mem_range.mpr hil)
      rw [hf] at h1
      cases f with
      | inr z => rfl
      | inl s =>
        show some (Value.int (h g s)) = some (Value.int (hset h g sl v g s))
        rw [hset_ne]
        rintro ⟨-, rfl⟩
        simp [hi] at h1
/-- an array's element -/
theorem hset_arr {G : Geo} {h : Hp} {g j o t i : Nat} {v : Int32} (hc : ar_cell (gT G g) j = some (.inr (.inl (o, t)))) (ht : 0 < t) : (.inl (gI G, ar_n (gT G g) g, .inl (upd (fun k => h g (o + t * k)) i v)) : va_E) = ar_e G (hset h g (o + t * i) v) g j := by
  unfold ar_e
  rw [hc]
  show Sum.inl (gI G, ar_n (gT G g) g, Sum.inl (upd (fun k => h g (o + t * k)) i v)) = Sum.inl (gI G, ar_n (gT G g) g, Sum.inl (fun k => hset h g (o + t * i) v g (o + t * k)))
  congr 4
  funext k
  unfold upd
  by_cases hk : k = i
  · subst hk
    rw [if_pos rfl, hset_eq]
  · rw [if_neg hk, hset_ne]
    rintro ⟨-, e⟩
    exact hk (Nat.eq_of_mul_eq_mul_left ht (by omega))
theorem ar_arr_one {T j o t : Nat} (i : Nat) (hc : ar_cell T j = some (.inr (.inl (o, t)))) : 0 < t ∧ ar_one T j (o + t * i) = true := by
  unfold ar_cell at hc
  split at hc <;> first | (cases hc; done) | skip
  all_goals (cases hc; refine ⟨by decide, ?_⟩; simp [ar_one, ar_uses, ar_cell, List.range, List.range.loop]; try omega)
