set_option maxRecDepth 100000 in
set_option maxHeartbeats 8000000 in
/-- THE LAW, from its entry -/
theorem whole_start {p : Program} {e : Env} {s : State} {m : MethodId} {below : List Frame} {meth : Method} {c : Code} (l : Launch) (hflags : l.flags = flags0) {b L : Nat} {xs : Nat → Int32} (hL : L ≤ 260) (C0 : lw_At p s m meth c b L xs) : W p l e room_1 s m #[Value.ref b] below meth c s.heap [] 0 0 (lw_Z below #[Value.ref b] s) (entryFrame m ([Value.ref b] : List Value).toArray 10) := by
  obtain ⟨hx, hb, hr, hml, hown, hts, hX, hbl, hlocks, hgv⟩ := id C0
  obtain ⟨c0, iS0, hKn0⟩ := u_known (C := RX0) (T := TX0) (N := 9) (n := 9) hts (fun w hw => (cf_X0.2.1 w hw).1) (hts _ in_X0)
  obtain ⟨c1, iS1, hKn1⟩ := u_known (C := RX1) (T := TX1) (N := 3) (n := 3) hts (fun w hw => (cf_X1.2.1 w hw).1) (hts _ in_X1)
  obtain ⟨c2, iS2, hKn2⟩ := u_known (C := RX2) (T := TX2) (N := 3) (n := 3) hts (fun w hw => (cf_X2.2.1 w hw).1) (hts _ in_X2)
  obtain ⟨c3, iS3, hKn3⟩ := u_known (C := RX3) (T := TX3) (N := 2) (n := 2) hts (fun w hw => (cf_X3.2.1 w hw).1) (hts _ in_X3)
  obtain ⟨c4, iS4, hKn4⟩ := u_known (C := RX4) (T := TX4) (N := 8) (n := 8) hts (fun w hw => (cf_X4.2.1 w hw).1) (hts _ in_X4)
  obtain ⟨c5, iS5, hKn5⟩ := u_known (C := RX5) (T := TX5) (N := 10) (n := 10) hts (fun w hw => (cf_X5.2.1 w hw).1) (hts _ in_X5)
  obtain ⟨c6, iS6, hKn6⟩ := u_known (C := RX6) (T := TX6) (N := 3) (n := 3) hts (fun w hw => (cf_X6.2.1 w hw).1) (hts _ in_X6)
  obtain ⟨c7, iS7, hKn7⟩ := u_known (C := RX7) (T := TX7) (N := 4) (n := 4) hts (fun w hw => (cf_X7.2.1 w hw).1) (hts _ in_X7)
  obtain ⟨c8, iS8, hKn8⟩ := u_known (C := RX8) (T := TX8) (N := 2) (n := 2) hts (fun w hw => (cf_X8.2.1 w hw).1) (hts _ in_X8)
  obtain ⟨c9, iS9, hKn9⟩ := u_known (C := RX9) (T := TX9) (N := 10) (n := 10) hts (fun w hw => (cf_X9.2.1 w hw).1) (hts _ in_X9)
  obtain ⟨D, hKc⟩ : ∃ D : va_G, ∀ (k : Nat) (q : vw_C), vwCl[k]? = some q → u_Kn s q.1 q.2.1 q.2.2 (D.1 k) (D.2 k) := by
    refine ⟨(fun k => match k with | 0 => c0 | 1 => c1 | 2 => c2 | 3 => c3 | 4 => c4 | 5 => c5 | 6 => c6 | 7 => c7 | 8 => c8 | _ => c9, fun k => match k with | 0 => iS0 | 1 => iS1 | 2 => iS2 | 3 => iS3 | 4 => iS4 | 5 => iS5 | 6 => iS6 | 7 => iS7 | 8 => iS8 | _ => iS9), ?_⟩
    intro k q hq
    match k, hq with
    | 0, hq => cases hq; exact hKn0
    | 1, hq => cases hq; exact hKn1
    | 2, hq => cases hq; exact hKn2
    | 3, hq => cases hq; exact hKn3
    | 4, hq => cases hq; exact hKn4
    | 5, hq => cases hq; exact hKn5
    | 6, hq => cases hq; exact hKn6
    | 7, hq => cases hq; exact hKn7
    | 8, hq => cases hq; exact hKn8
    | 9, hq => cases hq; exact hKn9
    | k + 10, hq => simp at hq
  obtain ⟨cI, kI, cp, f1, f2, f3⟩ := Cond.arrayClass_spec (hts (.arrayClass .int) (List.mem_of_getElem? (i := 145) (by decide +kernel)))
  have hov := hts (.arrayOver (.object "RoastKeeper$State")) (List.mem_of_getElem? (i := 242) (by decide +kernel))
  obtain ⟨cp2, cS, kS, g1, g2, g3, g4, g5⟩ := Cond.arrayOver_spec hov
  have hGK : GK (E0 D cI cS) s := by
    refine ⟨⟨hKc, fun k q hq => ?_⟩, fun w hw ho => va_Nw.of (gw_on ho) (hts w hw)⟩
    match k, hq with
    | 0, hq => cases hq; exact ⟨fun n z => ⟨(fun k h => by cases h), kI, f2, cp, f3⟩, f1⟩
    | 1, hq => cases hq; exact ⟨fun n z => ⟨(fun k h => by cases h), kS, g3, cp2, g4⟩, kS, cp2, g3, g4, g1, g5⟩
    | k + 2, hq => simp at hq
  have X : CX (E0 D cI cS) (fun q => s.heap.size ≤ q) p s m meth c RL cL_law 10 := ⟨hx, hb, hml, hown, hGK, GOK0 D cI cS, fun g j h => absurd (ar_T14 j) h, hlocks⟩
  have hA : ∀ q : Nat, s.heap.size ≤ q → (fun q : Nat => s.heap.size ≤ q) q := fun _ h => h
  have hO : va_AO "RoastKeeper$State" s := va_AO.of hov
  have hl := lv_entry ([.ref b]) (n := 10) (Nat.le_of_ble_eq_true rfl)
  rw [lg_entry_eq]
  generalize (lg_sl ([.ref b]) ++ List.replicate (10 - (lg_sl ([.ref b])).length) Slot.unset).toArray = ls at hl ⊢
  have hl : lv_has ls 10 [(0, .ref b)] := hl
  suffices hVC : VC D (fun q => s.heap.size ≤ q) p l e room_1 s m #[Value.ref b] below meth c 0 0 (lw_Z below #[Value.ref b] s) 10 [] 0 [(0, .ref b)] [] by
    exact hVC s.heap [] ls (fun k q h => by simp at h) ⟨fun i j p q h => by simp at h, fun k q h => by simp at h⟩ va_S.rf hl
  refine z_new (c2 := 1) (s2 := 10) X hA cf_X9 cl_L_13 in_X9 ini_X9 df_X9 (Nat.le_of_ble_eq_true rfl) (Nat.le_of_ble_eq_true rfl) rfl rfl dL_law_0 (fun x => ?_)
  refine z_dup X dL_law_3 rfl ?_
  refine z_ctor (W1 := fun u => wl (D, cI, cS, T9, gaK x u) hK4) X hA hO (c_X9_init (D := D) (cI := cI) (cS := cS) (l := l) x) mf_X9_init mi_X9_init rfl lk_L_78 rfl ⟨(Nat.le_of_ble_eq_true rfl), (Nat.le_of_ble_eq_true rfl)⟩ ⟨(Nat.le_of_ble_eq_true rfl), (Nat.le_of_ble_eq_true rfl)⟩ rfl (Nat.le_of_ble_eq_true rfl) (c2 := 91) (s2 := 906) rfl rfl dL_law_4 (fun u => ?_)
  refine z_astore_n (lv' := [(1, .ref x), (0, .ref b)]) X dL_law_7 (by decide) rfl ?_
  refine z_eq (ws2 := wl (D, cI, cS, T9, gaK x u) hK4) rfl ?_
  refine z_arena (T := T9) (ga := gaK x u) (h := hK4) X (fun g hg => T9_42 g (by omega)) (fun H hP => hP) (fun hD => hD) (fun X d => ?_)
  refine q_lv (lv2 := [(1, .ref (gA (D, cI, cS, T9, gaK x u) 0 0)), (0, .ref b)]) rfl ?_
  exact law_begin l hL X hr T9_K hX hbl INV_0 hK4_c.2.2.2.2.1 hK4_c.2.2.2.2.2.1 hK4_c.2.2.2.2.2.2
