set_option maxRecDepth 100000 in
set_option maxHeartbeats 8000000 in
theorem law_loop {G : Geo} {p : Program} {e : Env} {s : State} {m : MethodId} {below : List Frame} {meth : Method} {c : Code} (l : Launch) {b L : Nat} {xs : Nat → Int32} (hL : L ≤ 260) (X : CX G (fun q => s.heap.size ≤ q) p s m meth c RL cL_law 10) (hret : meth.sig.returnType = ret) (hK : KT G) (hX : va_X b L xs s s.heap) (hbl : b < s.heap.size) : ∀ (fu N t : Nat) (tt : Int32) (h : Hp), tt.toInt = t → t ≤ 17 → 17 - t < fu → N ≤ 10 + 2 * t → INV N h → VV G (fun q => s.heap.size ≤ q) p l e room_1 s m #[Value.ref b] below meth c 91 906 (lw_Z below #[Value.ref b] s) 10 h 67 [(2, .int tt), (1, .ref (gA G 0 0)), (0, .ref b)] [] := by
  intro fu
  induction fu with
  | zero => intro _ _ _ _ _ _ h; exact absurd h (Nat.not_lt_zero _)
  | succ fu ih =>
    intro N t tt h htt ht hf hN hI
    refine q_iload_n X 0 dL_law_67 rfl ?_
    refine q_bipush (v := 17) X dL_law_68 (by decide) ?_
    by_cases c : (17 : Int32) ≤ tt
    · refine q_icmp_ge (tgt := 303) X dL_law_70 (by decide) (fun _ => ?_) (fun q => absurd c q)
      refine q_sub (lv2 := [(1, .ref (gA G 0 0)), (0, .ref b)]) [1, 2] rfl ?_
      exact law_end l hL X hret hK hX hbl (by omega) hI
    · refine q_icmp_ge (tgt := 303) X dL_law_70 (by decide) (fun q => absurd q c) (fun _ => ?_)
      have t17 : t < 17 := by
        have := nle c
        have z17 : (17 : Int32).toInt = 17 := rfl
        omega
      refine law_act l hL X hret hK hX hbl (t := t) (fun N' h' t17 hI' hN' => law_tail l hL X hret hK hX hbl (t := t) (fun N' h' t17 hI' hN' => ?_) N' h' t17 hI' hN') N h htt t17 hI hN
      refine q_iinc (v := tt + 1) (lv' := [(2, .int (tt + 1)), (1, .ref (gA G 0 0)), (0, .ref b)]) X 0 dL_law_297 rfl rfl (by decide) rfl ?_
      refine q_goto (tgt := 67) X dL_law_300 (by decide) ?_
      exact ih N' (t + 1) (tt + 1) h' (k_up htt (by omega)) (by omega) (by omega) (by omega) hI'
