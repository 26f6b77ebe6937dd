section QL
variable {G : Geo} {A : Nat → Prop} {p : Program} {l : Launch} {e : Env} {R : Room} {s : State} {m : MethodId} {args : Array Value} {below : List Frame} {meth : Method} {c : Code} {cells slots : Nat} {Q : State → Prop} {nL : Nat}
variable {own : String} {cc : ByteArray} {h : Hp} {pc : Nat} {lv : List (Nat × Value)} {st : List Value}
theorem q_sld (X : CX G A p s m meth c own cc nL) {b L : Nat} {xs : Nat → Int32} (hX : va_X b L xs s s.heap) (hbl : b < s.heap.size) (hbA : ¬ A b) {i : Int32} (hin : vp_in i L) (hd : decode cc pc = .ok (.iaload, 1)) (k : VV G A p l e R s m args below meth c cells slots Q nL h (pc + 1) lv (.int (xs i.toNatClampNeg) :: st)) : VV G A p l e R s m args below meth c cells slots Q nL h pc lv (.int i :: .ref b :: st) := fun H locs ls hP hS hl => va_sld X.1 X.2.1 hX hbl hbA hS hin hd (k H locs ls hP hS hl)
theorem q_slen (X : CX G A p s m meth c own cc nL) {b L : Nat} {xs : Nat → Int32} (hX : va_X b L xs s s.heap) (hbl : b < s.heap.size) (hbA : ¬ A b) (hd : decode cc pc = .ok (.arraylength, 1)) (k : VV G A p l e R s m args below meth c cells slots Q nL h (pc + 1) lv (.int (Int32.ofNat L) :: st)) : VV G A p l e R s m args below meth c cells slots Q nL h pc lv (.ref b :: st) := fun H locs ls hP hS hl => va_slen X.1 X.2.1 hX hbl hbA hS hd (k H locs ls hP hS hl)
end QL
theorem vin_s {ii k : Int32} {i n L : Nat} (h : ii.toInt = i) (hk : k.toInt = n) (hn : n ≤ 4) (hL : L ≤ 2560) (hi : i + 5 ≤ L) : vp_in (ii + k) L := by
  have e : (ii + k).toInt = ((i + n : Nat) : Int) := by
    rw [ta (by omega) (by omega)]
    omega
  refine vin_of (not_neg_i e) ?_
  rw [i_eq e]
  omega
set_option maxRecDepth 100000 in
set_option maxHeartbeats 8000000 in
theorem law_loop {G : Geo} {p : Program} {e : Env} {s : State} {m : MethodId} {below : List Frame} {meth : Method} {c : Code} (l : Launch) {b L : Nat} {xs : Nat → Int32} (hL : L ≤ 2560) (X : CX G (fun q => s.heap.size ≤ q) p s m meth c RL cL_law 4) (hret : meth.sig.returnType = ret) (hK : KT G) (hM : MT G) (hX : va_X b L xs s s.heap) (hbl : b < s.heap.size) : ∀ (fu N i : Nat) (ii : Int32) (h : Hp), ii.toInt = i → i = 5 * N → i ≤ L → L - i < fu → CI N h (h 36) (h 37) (h 39) (h 40) → VV G (fun q => s.heap.size ≤ q) p l e room_1 s m #[Value.ref b] below meth c 97 1816 (lw_Z below #[Value.ref b] s) 4 h 18 [(3, .int ii), (2, .ref (gA G 36 0)), (1, .ref (gA G 0 0)), (0, .ref b)] [] := by
  have hbA : ¬ (fun q : Nat => s.heap.size ≤ q) b := Nat.not_le.mpr hbl
  have hG : GOK G := X.2.2.2.2.2.1
  have hT0 : gT G 0 = 0 := hK 0 (by decide)
  have hT36 : gT G 36 = 9 := hM 36 (by decide) (by decide)
  intro fu
  induction fu with
  | zero => intro _ _ _ _ _ _ _ h; exact absurd h (Nat.not_lt_zero _)
  | succ fu ih =>
    intro N i ii h hii hiN hiL hf hC
    refine q_iload_n X 0 dL_law_18 rfl ?_
    refine q_aload_n X 3 dL_law_19 rfl ?_
    refine q_slen X hX hbl hbA dL_law_20 ?_
    refine q_iconst (v := 5) X dL_law_21 (by decide) ?_
    refine q_isub X dL_law_22 ?_
    have eL : (Int32.ofNat L - 5).toInt = (L : Int) - 5 := by
      have e0 : (Int32.ofNat L).toInt = L := Int32.toInt_ofNat_of_lt (by omega)
      rw [tsu (b := 5) (by rw [e0]; show -2147483648 ≤ (L : Int) - 5; omega) (by rw [e0]; show (L : Int) - 5 < 2147483648; omega), e0]
      rfl
    refine q_icmp_gt (tgt := 786) X dL_law_23 (by decide) (fun q => ?_) (fun q => ?_)
    · refine q_iconst (v := 1) X dL_law_786 (by decide) ?_
      exact fun H locs ls hP hS hl => va_forget (fun q hq => hS.2.2 q hq) (W.widen (Nat.le_of_ble_eq_true rfl) (Nat.le_of_ble_eq_true rfl) (lw_ret X.1 X.2.1 hret X.2.2.2.2.2.2.2 dL_law_787))
    have hi5 : i + 5 ≤ L := by
      have := nlt q
      rw [eL, hii] at this
      omega
    clear q eL
    have hv0 : vp_in ii L := by
      refine vin_of (not_neg_i hii) ?_
      rw [i_eq hii]
      omega
    have hv1 : vp_in (ii + 1) L := vin_s hii (n := 1) rfl (by decide) hL hi5
    have hv2 : vp_in (ii + 2) L := vin_s hii (n := 2) rfl (by decide) hL hi5
    have hv3 : vp_in (ii + 3) L := vin_s hii (n := 3) rfl (by decide) hL hi5
    have hv4 : vp_in (ii + 4) L := vin_s hii (n := 4) rfl (by decide) hL hi5
    have tail : ∀ h2 : Hp, LI (N + 1) h2 → VV G (fun q => s.heap.size ≤ q) p l e room_1 s m #[Value.ref b] below meth c 97 1816 (lw_Z below #[Value.ref b] s) 4 h2 780 [(3, .int ii), (2, .ref (gA G 36 0)), (1, .ref (gA G 0 0)), (0, .ref b)] [] := fun h2 hC2 => by
      have e5 : (ii + 5).toInt = ((i + 5 : Nat) : Int) := by
        rw [ta (b := 5) (by rw [hii]; show -2147483648 ≤ (i : Int) + 5; omega) (by rw [hii]; show (i : Int) + 5 < 2147483648; omega), hii]
        rfl
      refine q_iinc (v := ii + 5) (lv' := [(3, .int (ii + 5)), (2, .ref (gA G 36 0)), (1, .ref (gA G 0 0)), (0, .ref b)]) X 0 dL_law_780 rfl rfl (by decide) rfl ?_
      refine q_goto (tgt := 18) X dL_law_783 (by decide) ?_
      exact ih (N + 1) (i + 5) (ii + 5) h2 e5 (by omega) hi5 (by omega) hC2
    refine q_aload_n X 3 dL_law_26 rfl ?_
    refine q_iload_n X 0 dL_law_27 rfl ?_
    refine q_sld X hX hbl hbA hv0 dL_law_28 ?_
    refine q_bipush (v := 31) X dL_law_29 (by decide) ?_
    refine q_iand X dL_law_31 ?_
    generalize xs (Int32.toNatClampNeg ii) &&& 31 = w
    by_cases hout : w.toInt < 0 ∨ 25 < w.toInt
    · refine q_tabOut (tgt := 780) X dL_law_32 hout (by decide) ?_
      exact tail h (CI_none rfl rfl hC)
    rcases (show w.toInt = 0 ∨ w.toInt = 1 ∨ w.toInt = 2 ∨ w.toInt = 3 ∨ w.toInt = 4 ∨ w.toInt = 5 ∨ w.toInt = 6 ∨ w.toInt = 7 ∨ w.toInt = 8 ∨ w.toInt = 9 ∨ w.toInt = 10 ∨ w.toInt = 11 ∨ w.toInt = 12 ∨ w.toInt = 13 ∨ w.toInt = 14 ∨ w.toInt = 15 ∨ w.toInt = 16 ∨ w.toInt = 17 ∨ w.toInt = 18 ∨ w.toInt = 19 ∨ w.toInt = 20 ∨ w.toInt = 21 ∨ w.toInt = 22 ∨ w.toInt = 23 ∨ w.toInt = 24 ∨ w.toInt = 25 by omega) with hw | hw | hw | hw | hw | hw | hw | hw | hw | hw | hw | hw | hw | hw | hw | hw | hw | hw | hw | hw | hw | hw | hw | hw | hw | hw
    · refine q_tabIn (tgt := 152) X dL_law_32 (by rw [hw]; decide) (by rw [hw]; decide) (by rw [hw]; rfl) (by decide) ?_
      obtain ⟨h1, h2, r, c1, c2, hC2⟩ := pair_setAmbient (l := l) hG hK hM (by omega) hC (xs (Int32.toNatClampNeg (ii + 1)))
      refine q_aload_n X 2 dL_law_152 rfl ?_
      refine q_aload_n X 3 dL_law_153 rfl ?_
      refine q_iload_n X 0 dL_law_154 rfl ?_
      refine q_iconst (v := 1) X dL_law_155 (by decide) ?_
      refine q_iadd X dL_law_156 ?_
      refine q_sld X hX hbl hbA hv1 dL_law_157 ?_
      refine q_callV (h1 := h1) (rest := []) (As := [.int (xs (Int32.toNatClampNeg (ii + 1)))]) X c1 mf_X9_setAmbient mv_X9_setAmbient cf_X9 rfl (ac_0_0 hT0) lk_L_13 rfl ⟨(Nat.le_of_ble_eq_true rfl), (Nat.le_of_ble_eq_true rfl)⟩ ⟨(Nat.le_of_ble_eq_true rfl), (Nat.le_of_ble_eq_true rfl)⟩ rfl (Nat.le_of_ble_eq_true rfl) dL_law_158 (st2 := [.int r]) rfl ?_
      refine q_aload_n X 1 dL_law_161 rfl ?_
      refine q_aload_n X 3 dL_law_162 rfl ?_
      refine q_iload_n X 0 dL_law_163 rfl ?_
      refine q_iconst (v := 1) X dL_law_164 (by decide) ?_
      refine q_iadd X dL_law_165 ?_
      refine q_sld X hX hbl hbA hv1 dL_law_166 ?_
      refine q_callV (h1 := h2) (rest := [.int r]) (As := [.int (xs (Int32.toNatClampNeg (ii + 1)))]) X c2 mf_X10_setAmbient mv_X10_setAmbient cf_X10 rfl (ac_9_0 hT36) lk_L_17 rfl ⟨(Nat.le_of_ble_eq_true rfl), (Nat.le_of_ble_eq_true rfl)⟩ ⟨(Nat.le_of_ble_eq_true rfl), (Nat.le_of_ble_eq_true rfl)⟩ rfl (Nat.le_of_ble_eq_true rfl) dL_law_167 (st2 := [.int r, .int r]) rfl ?_
      exact q_icmp_eq (tgt := 780) X dL_law_170 (by decide) (fun _ => tail h2 hC2) (fun q => absurd rfl q)
    · refine q_tabIn (tgt := 175) X dL_law_32 (by rw [hw]; decide) (by rw [hw]; decide) (by rw [hw]; rfl) (by decide) ?_
      obtain ⟨h1, h2, r, c1, c2, hC2⟩ := pair_setPower (l := l) hG hK hM (by omega) hC (xs (Int32.toNatClampNeg (ii + 1)))
      refine q_aload_n X 2 dL_law_175 rfl ?_
      refine q_aload_n X 3 dL_law_176 rfl ?_
      refine q_iload_n X 0 dL_law_177 rfl ?_
      refine q_iconst (v := 1) X dL_law_178 (by decide) ?_
      refine q_iadd X dL_law_179 ?_
      refine q_sld X hX hbl hbA hv1 dL_law_180 ?_
      refine q_callV (h1 := h1) (rest := []) (As := [.int (xs (Int32.toNatClampNeg (ii + 1)))]) X c1 mf_X9_setPower mv_X9_setPower cf_X9 rfl (ac_0_0 hT0) lk_L_18 rfl ⟨(Nat.le_of_ble_eq_true rfl), (Nat.le_of_ble_eq_true rfl)⟩ ⟨(Nat.le_of_ble_eq_true rfl), (Nat.le_of_ble_eq_true rfl)⟩ rfl (Nat.le_of_ble_eq_true rfl) dL_law_181 (st2 := [.int r]) rfl ?_
      refine q_aload_n X 1 dL_law_184 rfl ?_
      refine q_aload_n X 3 dL_law_185 rfl ?_
      refine q_iload_n X 0 dL_law_186 rfl ?_
      refine q_iconst (v := 1) X dL_law_187 (by decide) ?_
      refine q_iadd X dL_law_188 ?_
      refine q_sld X hX hbl hbA hv1 dL_law_189 ?_
      refine q_callV (h1 := h2) (rest := [.int r]) (As := [.int (xs (Int32.toNatClampNeg (ii + 1)))]) X c2 mf_X10_setPower mv_X10_setPower cf_X10 rfl (ac_9_0 hT36) lk_L_21 rfl ⟨(Nat.le_of_ble_eq_true rfl), (Nat.le_of_ble_eq_true rfl)⟩ ⟨(Nat.le_of_ble_eq_true rfl), (Nat.le_of_ble_eq_true rfl)⟩ rfl (Nat.le_of_ble_eq_true rfl) dL_law_190 (st2 := [.int r, .int r]) rfl ?_
      exact q_icmp_eq (tgt := 780) X dL_law_193 (by decide) (fun _ => tail h2 hC2) (fun q => absurd rfl q)
    · refine q_tabIn (tgt := 198) X dL_law_32 (by rw [hw]; decide) (by rw [hw]; decide) (by rw [hw]; rfl) (by decide) ?_
      obtain ⟨h1, h2, r, c1, c2, hC2⟩ := pair_setController (l := l) hG hK hM (by omega) hC (xs (Int32.toNatClampNeg (ii + 1))) (xs (Int32.toNatClampNeg (ii + 2))) (xs (Int32.toNatClampNeg (ii + 3))) (xs (Int32.toNatClampNeg (ii + 4)))
      refine q_aload_n X 2 dL_law_198 rfl ?_
      refine q_aload_n X 3 dL_law_199 rfl ?_
      refine q_iload_n X 0 dL_law_200 rfl ?_
      refine q_iconst (v := 1) X dL_law_201 (by decide) ?_
      refine q_iadd X dL_law_202 ?_
      refine q_sld X hX hbl hbA hv1 dL_law_203 ?_
      refine q_aload_n X 3 dL_law_204 rfl ?_
      refine q_iload_n X 0 dL_law_205 rfl ?_
      refine q_iconst (v := 2) X dL_law_206 (by decide) ?_
      refine q_iadd X dL_law_207 ?_
      refine q_sld X hX hbl hbA hv2 dL_law_208 ?_
      refine q_aload_n X 3 dL_law_209 rfl ?_
      refine q_iload_n X 0 dL_law_210 rfl ?_
      refine q_iconst (v := 3) X dL_law_211 (by decide) ?_
      refine q_iadd X dL_law_212 ?_
      refine q_sld X hX hbl hbA hv3 dL_law_213 ?_
      refine q_aload_n X 3 dL_law_214 rfl ?_
      refine q_iload_n X 0 dL_law_215 rfl ?_
      refine q_iconst (v := 4) X dL_law_216 (by decide) ?_
      refine q_iadd X dL_law_217 ?_
      refine q_sld X hX hbl hbA hv4 dL_law_218 ?_
      refine q_callV (h1 := h1) (rest := []) (As := [.int (xs (Int32.toNatClampNeg (ii + 1))), .int (xs (Int32.toNatClampNeg (ii + 2))), .int (xs (Int32.toNatClampNeg (ii + 3))), .int (xs (Int32.toNatClampNeg (ii + 4)))]) X c1 mf_X9_setController mv_X9_setController cf_X9 rfl (ac_0_0 hT0) lk_L_22 rfl ⟨(Nat.le_of_ble_eq_true rfl), (Nat.le_of_ble_eq_true rfl)⟩ ⟨(Nat.le_of_ble_eq_true rfl), (Nat.le_of_ble_eq_true rfl)⟩ rfl (Nat.le_of_ble_eq_true rfl) dL_law_219 (st2 := [.int r]) rfl ?_
      refine q_aload_n X 1 dL_law_222 rfl ?_
      refine q_aload_n X 3 dL_law_223 rfl ?_
      refine q_iload_n X 0 dL_law_224 rfl ?_
      refine q_iconst (v := 1) X dL_law_225 (by decide) ?_
      refine q_iadd X dL_law_226 ?_
      refine q_sld X hX hbl hbA hv1 dL_law_227 ?_
      refine q_aload_n X 3 dL_law_228 rfl ?_
      refine q_iload_n X 0 dL_law_229 rfl ?_
      refine q_iconst (v := 2) X dL_law_230 (by decide) ?_
      refine q_iadd X dL_law_231 ?_
      refine q_sld X hX hbl hbA hv2 dL_law_232 ?_
      refine q_aload_n X 3 dL_law_233 rfl ?_
      refine q_iload_n X 0 dL_law_234 rfl ?_
      refine q_iconst (v := 3) X dL_law_235 (by decide) ?_
      refine q_iadd X dL_law_236 ?_
      refine q_sld X hX hbl hbA hv3 dL_law_237 ?_
      refine q_aload_n X 3 dL_law_238 rfl ?_
      refine q_iload_n X 0 dL_law_239 rfl ?_
      refine q_iconst (v := 4) X dL_law_240 (by decide) ?_
      refine q_iadd X dL_law_241 ?_
      refine q_sld X hX hbl hbA hv4 dL_law_242 ?_
      refine q_callV (h1 := h2) (rest := [.int r]) (As := [.int (xs (Int32.toNatClampNeg (ii + 1))), .int (xs (Int32.toNatClampNeg (ii + 2))), .int (xs (Int32.toNatClampNeg (ii + 3))), .int (xs (Int32.toNatClampNeg (ii + 4)))]) X c2 mf_X10_setController mv_X10_setController cf_X10 rfl (ac_9_0 hT36) lk_L_26 rfl ⟨(Nat.le_of_ble_eq_true rfl), (Nat.le_of_ble_eq_true rfl)⟩ ⟨(Nat.le_of_ble_eq_true rfl), (Nat.le_of_ble_eq_true rfl)⟩ rfl (Nat.le_of_ble_eq_true rfl) dL_law_243 (st2 := [.int r, .int r]) rfl ?_
      exact q_icmp_eq (tgt := 780) X dL_law_246 (by decide) (fun _ => tail h2 hC2) (fun q => absurd rfl q)
    · refine q_tabIn (tgt := 251) X dL_law_32 (by rw [hw]; decide) (by rw [hw]; decide) (by rw [hw]; rfl) (by decide) ?_
      obtain ⟨h1, h2, r, c1, c2, hC2⟩ := pair_setProbe (l := l) hG hK hM (by omega) hC (xs (Int32.toNatClampNeg (ii + 1))) (xs (Int32.toNatClampNeg (ii + 2)))
      refine q_aload_n X 2 dL_law_251 rfl ?_
      refine q_aload_n X 3 dL_law_252 rfl ?_
      refine q_iload_n X 0 dL_law_253 rfl ?_
      refine q_iconst (v := 1) X dL_law_254 (by decide) ?_
      refine q_iadd X dL_law_255 ?_
      refine q_sld X hX hbl hbA hv1 dL_law_256 ?_
      refine q_aload_n X 3 dL_law_257 rfl ?_
      refine q_iload_n X 0 dL_law_258 rfl ?_
      refine q_iconst (v := 2) X dL_law_259 (by decide) ?_
      refine q_iadd X dL_law_260 ?_
      refine q_sld X hX hbl hbA hv2 dL_law_261 ?_
      refine q_callV (h1 := h1) (rest := []) (As := [.int (xs (Int32.toNatClampNeg (ii + 1))), .int (xs (Int32.toNatClampNeg (ii + 2)))]) X c1 mf_X9_setProbe mv_X9_setProbe cf_X9 rfl (ac_0_0 hT0) lk_L_27 rfl ⟨(Nat.le_of_ble_eq_true rfl), (Nat.le_of_ble_eq_true rfl)⟩ ⟨(Nat.le_of_ble_eq_true rfl), (Nat.le_of_ble_eq_true rfl)⟩ rfl (Nat.le_of_ble_eq_true rfl) dL_law_262 (st2 := [.int r]) rfl ?_
      refine q_aload_n X 1 dL_law_265 rfl ?_
      refine q_aload_n X 3 dL_law_266 rfl ?_
      refine q_iload_n X 0 dL_law_267 rfl ?_
      refine q_iconst (v := 1) X dL_law_268 (by decide) ?_
      refine q_iadd X dL_law_269 ?_
      refine q_sld X hX hbl hbA hv1 dL_law_270 ?_
      refine q_aload_n X 3 dL_law_271 rfl ?_
      refine q_iload_n X 0 dL_law_272 rfl ?_
      refine q_iconst (v := 2) X dL_law_273 (by decide) ?_
      refine q_iadd X dL_law_274 ?_
      refine q_sld X hX hbl hbA hv2 dL_law_275 ?_
      refine q_callV (h1 := h2) (rest := [.int r]) (As := [.int (xs (Int32.toNatClampNeg (ii + 1))), .int (xs (Int32.toNatClampNeg (ii + 2)))]) X c2 mf_X10_setProbe mv_X10_setProbe cf_X10 rfl (ac_9_0 hT36) lk_L_31 rfl ⟨(Nat.le_of_ble_eq_true rfl), (Nat.le_of_ble_eq_true rfl)⟩ ⟨(Nat.le_of_ble_eq_true rfl), (Nat.le_of_ble_eq_true rfl)⟩ rfl (Nat.le_of_ble_eq_true rfl) dL_law_276 (st2 := [.int r, .int r]) rfl ?_
      exact q_icmp_eq (tgt := 780) X dL_law_279 (by decide) (fun _ => tail h2 hC2) (fun q => absurd rfl q)
    · refine q_tabIn (tgt := 284) X dL_law_32 (by rw [hw]; decide) (by rw [hw]; decide) (by rw [hw]; rfl) (by decide) ?_
      obtain ⟨h1, h2, r, c1, c2, hC2⟩ := pair_setCrack (l := l) hG hK hM (by omega) hC (xs (Int32.toNatClampNeg (ii + 1))) (xs (Int32.toNatClampNeg (ii + 2)))
      refine q_aload_n X 2 dL_law_284 rfl ?_
      refine q_aload_n X 3 dL_law_285 rfl ?_
      refine q_iload_n X 0 dL_law_286 rfl ?_
      refine q_iconst (v := 1) X dL_law_287 (by decide) ?_
      refine q_iadd X dL_law_288 ?_
      refine q_sld X hX hbl hbA hv1 dL_law_289 ?_
      refine q_aload_n X 3 dL_law_290 rfl ?_
      refine q_iload_n X 0 dL_law_291 rfl ?_
      refine q_iconst (v := 2) X dL_law_292 (by decide) ?_
      refine q_iadd X dL_law_293 ?_
      refine q_sld X hX hbl hbA hv2 dL_law_294 ?_
      refine q_callV (h1 := h1) (rest := []) (As := [.int (xs (Int32.toNatClampNeg (ii + 1))), .int (xs (Int32.toNatClampNeg (ii + 2)))]) X c1 mf_X9_setCrack mv_X9_setCrack cf_X9 rfl (ac_0_0 hT0) lk_L_32 rfl ⟨(Nat.le_of_ble_eq_true rfl), (Nat.le_of_ble_eq_true rfl)⟩ ⟨(Nat.le_of_ble_eq_true rfl), (Nat.le_of_ble_eq_true rfl)⟩ rfl (Nat.le_of_ble_eq_true rfl) dL_law_295 (st2 := [.int r]) rfl ?_
      refine q_aload_n X 1 dL_law_298 rfl ?_
      refine q_aload_n X 3 dL_law_299 rfl ?_
      refine q_iload_n X 0 dL_law_300 rfl ?_
      refine q_iconst (v := 1) X dL_law_301 (by decide) ?_
      refine q_iadd X dL_law_302 ?_
      refine q_sld X hX hbl hbA hv1 dL_law_303 ?_
      refine q_aload_n X 3 dL_law_304 rfl ?_
      refine q_iload_n X 0 dL_law_305 rfl ?_
      refine q_iconst (v := 2) X dL_law_306 (by decide) ?_
      refine q_iadd X dL_law_307 ?_
      refine q_sld X hX hbl hbA hv2 dL_law_308 ?_
      refine q_callV (h1 := h2) (rest := [.int r]) (As := [.int (xs (Int32.toNatClampNeg (ii + 1))), .int (xs (Int32.toNatClampNeg (ii + 2)))]) X c2 mf_X10_setCrack mv_X10_setCrack cf_X10 rfl (ac_9_0 hT36) lk_L_35 rfl ⟨(Nat.le_of_ble_eq_true rfl), (Nat.le_of_ble_eq_true rfl)⟩ ⟨(Nat.le_of_ble_eq_true rfl), (Nat.le_of_ble_eq_true rfl)⟩ rfl (Nat.le_of_ble_eq_true rfl) dL_law_309 (st2 := [.int r, .int r]) rfl ?_
      exact q_icmp_eq (tgt := 780) X dL_law_312 (by decide) (fun _ => tail h2 hC2) (fun q => absurd rfl q)
    · refine q_tabIn (tgt := 317) X dL_law_32 (by rw [hw]; decide) (by rw [hw]; decide) (by rw [hw]; rfl) (by decide) ?_
      obtain ⟨h1, h2, r, c1, c2, hC2⟩ := pair_setFan (l := l) hG hK hM (by omega) hC (xs (Int32.toNatClampNeg (ii + 1)))
      refine q_aload_n X 2 dL_law_317 rfl ?_
      refine q_aload_n X 3 dL_law_318 rfl ?_
      refine q_iload_n X 0 dL_law_319 rfl ?_
      refine q_iconst (v := 1) X dL_law_320 (by decide) ?_
      refine q_iadd X dL_law_321 ?_
      refine q_sld X hX hbl hbA hv1 dL_law_322 ?_
      refine q_callV (h1 := h1) (rest := []) (As := [.int (xs (Int32.toNatClampNeg (ii + 1)))]) X c1 mf_X9_setFan mv_X9_setFan cf_X9 rfl (ac_0_0 hT0) lk_L_36 rfl ⟨(Nat.le_of_ble_eq_true rfl), (Nat.le_of_ble_eq_true rfl)⟩ ⟨(Nat.le_of_ble_eq_true rfl), (Nat.le_of_ble_eq_true rfl)⟩ rfl (Nat.le_of_ble_eq_true rfl) dL_law_323 (st2 := [.int r]) rfl ?_
      refine q_aload_n X 1 dL_law_326 rfl ?_
      refine q_aload_n X 3 dL_law_327 rfl ?_
      refine q_iload_n X 0 dL_law_328 rfl ?_
      refine q_iconst (v := 1) X dL_law_329 (by decide) ?_
      refine q_iadd X dL_law_330 ?_
      refine q_sld X hX hbl hbA hv1 dL_law_331 ?_
      refine q_callV (h1 := h2) (rest := [.int r]) (As := [.int (xs (Int32.toNatClampNeg (ii + 1)))]) X c2 mf_X10_setFan mv_X10_setFan cf_X10 rfl (ac_9_0 hT36) lk_L_39 rfl ⟨(Nat.le_of_ble_eq_true rfl), (Nat.le_of_ble_eq_true rfl)⟩ ⟨(Nat.le_of_ble_eq_true rfl), (Nat.le_of_ble_eq_true rfl)⟩ rfl (Nat.le_of_ble_eq_true rfl) dL_law_332 (st2 := [.int r, .int r]) rfl ?_
      exact q_icmp_eq (tgt := 780) X dL_law_335 (by decide) (fun _ => tail h2 hC2) (fun q => absurd rfl q)
    · refine q_tabIn (tgt := 340) X dL_law_32 (by rw [hw]; decide) (by rw [hw]; decide) (by rw [hw]; rfl) (by decide) ?_
      obtain ⟨h1, h2, r, c1, c2, hC2⟩ := pair_setPoint (l := l) hG hK hM (by omega) hC (xs (Int32.toNatClampNeg (ii + 1))) (xs (Int32.toNatClampNeg (ii + 2)))
      refine q_aload_n X 2 dL_law_340 rfl ?_
      refine q_aload_n X 3 dL_law_341 rfl ?_
      refine q_iload_n X 0 dL_law_342 rfl ?_
      refine q_iconst (v := 1) X dL_law_343 (by decide) ?_
      refine q_iadd X dL_law_344 ?_
      refine q_sld X hX hbl hbA hv1 dL_law_345 ?_
      refine q_aload_n X 3 dL_law_346 rfl ?_
      refine q_iload_n X 0 dL_law_347 rfl ?_
      refine q_iconst (v := 2) X dL_law_348 (by decide) ?_
      refine q_iadd X dL_law_349 ?_
      refine q_sld X hX hbl hbA hv2 dL_law_350 ?_
      refine q_callV (h1 := h1) (rest := []) (As := [.int (xs (Int32.toNatClampNeg (ii + 1))), .int (xs (Int32.toNatClampNeg (ii + 2)))]) X c1 mf_X9_setPoint mv_X9_setPoint cf_X9 rfl (ac_0_0 hT0) lk_L_40 rfl ⟨(Nat.le_of_ble_eq_true rfl), (Nat.le_of_ble_eq_true rfl)⟩ ⟨(Nat.le_of_ble_eq_true rfl), (Nat.le_of_ble_eq_true rfl)⟩ rfl (Nat.le_of_ble_eq_true rfl) dL_law_351 (st2 := [.int r]) rfl ?_
      refine q_aload_n X 1 dL_law_354 rfl ?_
      refine q_aload_n X 3 dL_law_355 rfl ?_
      refine q_iload_n X 0 dL_law_356 rfl ?_
      refine q_iconst (v := 1) X dL_law_357 (by decide) ?_
      refine q_iadd X dL_law_358 ?_
      refine q_sld X hX hbl hbA hv1 dL_law_359 ?_
      refine q_aload_n X 3 dL_law_360 rfl ?_
      refine q_iload_n X 0 dL_law_361 rfl ?_
      refine q_iconst (v := 2) X dL_law_362 (by decide) ?_
      refine q_iadd X dL_law_363 ?_
      refine q_sld X hX hbl hbA hv2 dL_law_364 ?_
      refine q_callV (h1 := h2) (rest := [.int r]) (As := [.int (xs (Int32.toNatClampNeg (ii + 1))), .int (xs (Int32.toNatClampNeg (ii + 2)))]) X c2 mf_X10_setPoint mv_X10_setPoint cf_X10 rfl (ac_9_0 hT36) lk_L_43 rfl ⟨(Nat.le_of_ble_eq_true rfl), (Nat.le_of_ble_eq_true rfl)⟩ ⟨(Nat.le_of_ble_eq_true rfl), (Nat.le_of_ble_eq_true rfl)⟩ rfl (Nat.le_of_ble_eq_true rfl) dL_law_365 (st2 := [.int r, .int r]) rfl ?_
      exact q_icmp_eq (tgt := 780) X dL_law_368 (by decide) (fun _ => tail h2 hC2) (fun q => absurd rfl q)
    · refine q_tabIn (tgt := 373) X dL_law_32 (by rw [hw]; decide) (by rw [hw]; decide) (by rw [hw]; rfl) (by decide) ?_
      obtain ⟨h1, h2, r, c1, c2, hC2⟩ := pair_removePoint (l := l) hG hK hM (by omega) hC (xs (Int32.toNatClampNeg (ii + 1)))
      refine q_aload_n X 2 dL_law_373 rfl ?_
      refine q_aload_n X 3 dL_law_374 rfl ?_
      refine q_iload_n X 0 dL_law_375 rfl ?_
      refine q_iconst (v := 1) X dL_law_376 (by decide) ?_
      refine q_iadd X dL_law_377 ?_
      refine q_sld X hX hbl hbA hv1 dL_law_378 ?_
      refine q_callV (h1 := h1) (rest := []) (As := [.int (xs (Int32.toNatClampNeg (ii + 1)))]) X c1 mf_X9_removePoint mv_X9_removePoint cf_X9 rfl (ac_0_0 hT0) lk_L_44 rfl ⟨(Nat.le_of_ble_eq_true rfl), (Nat.le_of_ble_eq_true rfl)⟩ ⟨(Nat.le_of_ble_eq_true rfl), (Nat.le_of_ble_eq_true rfl)⟩ rfl (Nat.le_of_ble_eq_true rfl) dL_law_379 (st2 := [.int r]) rfl ?_
      refine q_aload_n X 1 dL_law_382 rfl ?_
      refine q_aload_n X 3 dL_law_383 rfl ?_
      refine q_iload_n X 0 dL_law_384 rfl ?_
      refine q_iconst (v := 1) X dL_law_385 (by decide) ?_
      refine q_iadd X dL_law_386 ?_
      refine q_sld X hX hbl hbA hv1 dL_law_387 ?_
      refine q_callV (h1 := h2) (rest := [.int r]) (As := [.int (xs (Int32.toNatClampNeg (ii + 1)))]) X c2 mf_X10_removePoint mv_X10_removePoint cf_X10 rfl (ac_9_0 hT36) lk_L_47 rfl ⟨(Nat.le_of_ble_eq_true rfl), (Nat.le_of_ble_eq_true rfl)⟩ ⟨(Nat.le_of_ble_eq_true rfl), (Nat.le_of_ble_eq_true rfl)⟩ rfl (Nat.le_of_ble_eq_true rfl) dL_law_388 (st2 := [.int r, .int r]) rfl ?_
      exact q_icmp_eq (tgt := 780) X dL_law_391 (by decide) (fun _ => tail h2 hC2) (fun q => absurd rfl q)
    · refine q_tabIn (tgt := 396) X dL_law_32 (by rw [hw]; decide) (by rw [hw]; decide) (by rw [hw]; rfl) (by decide) ?_
      obtain ⟨h1, h2, r, c1, c2, hC2⟩ := pair_setRow (l := l) hG hK hM (by omega) hC (xs (Int32.toNatClampNeg (ii + 1))) (xs (Int32.toNatClampNeg (ii + 2)))
      refine q_aload_n X 2 dL_law_396 rfl ?_
      refine q_aload_n X 3 dL_law_397 rfl ?_
      refine q_iload_n X 0 dL_law_398 rfl ?_
      refine q_iconst (v := 1) X dL_law_399 (by decide) ?_
      refine q_iadd X dL_law_400 ?_
      refine q_sld X hX hbl hbA hv1 dL_law_401 ?_
      refine q_aload_n X 3 dL_law_402 rfl ?_
      refine q_iload_n X 0 dL_law_403 rfl ?_
      refine q_iconst (v := 2) X dL_law_404 (by decide) ?_
      refine q_iadd X dL_law_405 ?_
      refine q_sld X hX hbl hbA hv2 dL_law_406 ?_
      refine q_callV (h1 := h1) (rest := []) (As := [.int (xs (Int32.toNatClampNeg (ii + 1))), .int (xs (Int32.toNatClampNeg (ii + 2)))]) X c1 mf_X9_setRow mv_X9_setRow cf_X9 rfl (ac_0_0 hT0) lk_L_48 rfl ⟨(Nat.le_of_ble_eq_true rfl), (Nat.le_of_ble_eq_true rfl)⟩ ⟨(Nat.le_of_ble_eq_true rfl), (Nat.le_of_ble_eq_true rfl)⟩ rfl (Nat.le_of_ble_eq_true rfl) dL_law_407 (st2 := [.int r]) rfl ?_
      refine q_aload_n X 1 dL_law_410 rfl ?_
      refine q_aload_n X 3 dL_law_411 rfl ?_
      refine q_iload_n X 0 dL_law_412 rfl ?_
      refine q_iconst (v := 1) X dL_law_413 (by decide) ?_
      refine q_iadd X dL_law_414 ?_
      refine q_sld X hX hbl hbA hv1 dL_law_415 ?_
      refine q_aload_n X 3 dL_law_416 rfl ?_
      refine q_iload_n X 0 dL_law_417 rfl ?_
      refine q_iconst (v := 2) X dL_law_418 (by decide) ?_
      refine q_iadd X dL_law_419 ?_
      refine q_sld X hX hbl hbA hv2 dL_law_420 ?_
      refine q_callV (h1 := h2) (rest := [.int r]) (As := [.int (xs (Int32.toNatClampNeg (ii + 1))), .int (xs (Int32.toNatClampNeg (ii + 2)))]) X c2 mf_X10_setRow mv_X10_setRow cf_X10 rfl (ac_9_0 hT36) lk_L_51 rfl ⟨(Nat.le_of_ble_eq_true rfl), (Nat.le_of_ble_eq_true rfl)⟩ ⟨(Nat.le_of_ble_eq_true rfl), (Nat.le_of_ble_eq_true rfl)⟩ rfl (Nat.le_of_ble_eq_true rfl) dL_law_421 (st2 := [.int r, .int r]) rfl ?_
      exact q_icmp_eq (tgt := 780) X dL_law_424 (by decide) (fun _ => tail h2 hC2) (fun q => absurd rfl q)
    · refine q_tabIn (tgt := 429) X dL_law_32 (by rw [hw]; decide) (by rw [hw]; decide) (by rw [hw]; rfl) (by decide) ?_
      obtain ⟨h1, h2, r, c1, c2, hC2⟩ := pair_append (l := l) hG hK hM (by omega) hC (xs (Int32.toNatClampNeg (ii + 1)))
      refine q_aload_n X 2 dL_law_429 rfl ?_
      refine q_aload_n X 3 dL_law_430 rfl ?_
      refine q_iload_n X 0 dL_law_431 rfl ?_
      refine q_iconst (v := 1) X dL_law_432 (by decide) ?_
      refine q_iadd X dL_law_433 ?_
      refine q_sld X hX hbl hbA hv1 dL_law_434 ?_
      refine q_callV (h1 := h1) (rest := []) (As := [.int (xs (Int32.toNatClampNeg (ii + 1)))]) X c1 mf_X9_append mv_X9_append cf_X9 rfl (ac_0_0 hT0) lk_L_52 rfl ⟨(Nat.le_of_ble_eq_true rfl), (Nat.le_of_ble_eq_true rfl)⟩ ⟨(Nat.le_of_ble_eq_true rfl), (Nat.le_of_ble_eq_true rfl)⟩ rfl (Nat.le_of_ble_eq_true rfl) dL_law_435 (st2 := [.int r]) rfl ?_
      refine q_aload_n X 1 dL_law_438 rfl ?_
      refine q_aload_n X 3 dL_law_439 rfl ?_
      refine q_iload_n X 0 dL_law_440 rfl ?_
      refine q_iconst (v := 1) X dL_law_441 (by decide) ?_
      refine q_iadd X dL_law_442 ?_
      refine q_sld X hX hbl hbA hv1 dL_law_443 ?_
      refine q_callV (h1 := h2) (rest := [.int r]) (As := [.int (xs (Int32.toNatClampNeg (ii + 1)))]) X c2 mf_X10_append mv_X10_append cf_X10 rfl (ac_9_0 hT36) lk_L_55 rfl ⟨(Nat.le_of_ble_eq_true rfl), (Nat.le_of_ble_eq_true rfl)⟩ ⟨(Nat.le_of_ble_eq_true rfl), (Nat.le_of_ble_eq_true rfl)⟩ rfl (Nat.le_of_ble_eq_true rfl) dL_law_444 (st2 := [.int r, .int r]) rfl ?_
      exact q_icmp_eq (tgt := 780) X dL_law_447 (by decide) (fun _ => tail h2 hC2) (fun q => absurd rfl q)
    · refine q_tabIn (tgt := 452) X dL_law_32 (by rw [hw]; decide) (by rw [hw]; decide) (by rw [hw]; rfl) (by decide) ?_
      obtain ⟨h1, h2, r, c1, c2, hC2⟩ := pair_clearText (l := l) hG hK hM (by omega) hC
      refine q_aload_n X 2 dL_law_452 rfl ?_
      refine q_callV (h1 := h1) (rest := []) (As := []) X c1 mf_X9_clearText mv_X9_clearText cf_X9 rfl (ac_0_0 hT0) lk_L_56 rfl ⟨(Nat.le_of_ble_eq_true rfl), (Nat.le_of_ble_eq_true rfl)⟩ ⟨(Nat.le_of_ble_eq_true rfl), (Nat.le_of_ble_eq_true rfl)⟩ rfl (Nat.le_of_ble_eq_true rfl) dL_law_453 (st2 := [.int r]) rfl ?_
      refine q_aload_n X 1 dL_law_456 rfl ?_
      refine q_callV (h1 := h2) (rest := [.int r]) (As := []) X c2 mf_X10_clearText mv_X10_clearText cf_X10 rfl (ac_9_0 hT36) lk_L_60 rfl ⟨(Nat.le_of_ble_eq_true rfl), (Nat.le_of_ble_eq_true rfl)⟩ ⟨(Nat.le_of_ble_eq_true rfl), (Nat.le_of_ble_eq_true rfl)⟩ rfl (Nat.le_of_ble_eq_true rfl) dL_law_457 (st2 := [.int r, .int r]) rfl ?_
      exact q_icmp_eq (tgt := 780) X dL_law_460 (by decide) (fun _ => tail h2 hC2) (fun q => absurd rfl q)
    · refine q_tabIn (tgt := 465) X dL_law_32 (by rw [hw]; decide) (by rw [hw]; decide) (by rw [hw]; rfl) (by decide) ?_
      obtain ⟨h1, h2, r, c1, c2, hC2⟩ := pair_load (l := l) hG hK hM (by omega) hC
      refine q_aload_n X 2 dL_law_465 rfl ?_
      refine q_callV (h1 := h1) (rest := []) (As := []) X c1 mf_X9_load mv_X9_load cf_X9 rfl (ac_0_0 hT0) lk_L_61 rfl ⟨(Nat.le_of_ble_eq_true rfl), (Nat.le_of_ble_eq_true rfl)⟩ ⟨(Nat.le_of_ble_eq_true rfl), (Nat.le_of_ble_eq_true rfl)⟩ rfl (Nat.le_of_ble_eq_true rfl) dL_law_466 (st2 := [.int r]) rfl ?_
      refine q_aload_n X 1 dL_law_469 rfl ?_
      refine q_callV (h1 := h2) (rest := [.int r]) (As := []) X c2 mf_X10_load mv_X10_load cf_X10 rfl (ac_9_0 hT36) lk_L_64 rfl ⟨(Nat.le_of_ble_eq_true rfl), (Nat.le_of_ble_eq_true rfl)⟩ ⟨(Nat.le_of_ble_eq_true rfl), (Nat.le_of_ble_eq_true rfl)⟩ rfl (Nat.le_of_ble_eq_true rfl) dL_law_470 (st2 := [.int r, .int r]) rfl ?_
      exact q_icmp_eq (tgt := 780) X dL_law_473 (by decide) (fun _ => tail h2 hC2) (fun q => absurd rfl q)
    · refine q_tabIn (tgt := 478) X dL_law_32 (by rw [hw]; decide) (by rw [hw]; decide) (by rw [hw]; rfl) (by decide) ?_
      obtain ⟨h1, h2, r, c1, c2, hC2⟩ := pair_charge (l := l) hG hK hM (by omega) hC (xs (Int32.toNatClampNeg (ii + 1)))
      refine q_aload_n X 2 dL_law_478 rfl ?_
      refine q_aload_n X 3 dL_law_479 rfl ?_
      refine q_iload_n X 0 dL_law_480 rfl ?_
      refine q_iconst (v := 1) X dL_law_481 (by decide) ?_
      refine q_iadd X dL_law_482 ?_
      refine q_sld X hX hbl hbA hv1 dL_law_483 ?_
      refine q_callV (h1 := h1) (rest := []) (As := [.int (xs (Int32.toNatClampNeg (ii + 1)))]) X c1 mf_X9_charge mv_X9_charge cf_X9 rfl (ac_0_0 hT0) lk_L_65 rfl ⟨(Nat.le_of_ble_eq_true rfl), (Nat.le_of_ble_eq_true rfl)⟩ ⟨(Nat.le_of_ble_eq_true rfl), (Nat.le_of_ble_eq_true rfl)⟩ rfl (Nat.le_of_ble_eq_true rfl) dL_law_484 (st2 := [.int r]) rfl ?_
      refine q_aload_n X 1 dL_law_487 rfl ?_
      refine q_aload_n X 3 dL_law_488 rfl ?_
      refine q_iload_n X 0 dL_law_489 rfl ?_
      refine q_iconst (v := 1) X dL_law_490 (by decide) ?_
      refine q_iadd X dL_law_491 ?_
      refine q_sld X hX hbl hbA hv1 dL_law_492 ?_
      refine q_callV (h1 := h2) (rest := [.int r]) (As := [.int (xs (Int32.toNatClampNeg (ii + 1)))]) X c2 mf_X10_charge mv_X10_charge cf_X10 rfl (ac_9_0 hT36) lk_L_68 rfl ⟨(Nat.le_of_ble_eq_true rfl), (Nat.le_of_ble_eq_true rfl)⟩ ⟨(Nat.le_of_ble_eq_true rfl), (Nat.le_of_ble_eq_true rfl)⟩ rfl (Nat.le_of_ble_eq_true rfl) dL_law_493 (st2 := [.int r, .int r]) rfl ?_
      exact q_icmp_eq (tgt := 780) X dL_law_496 (by decide) (fun _ => tail h2 hC2) (fun q => absurd rfl q)
    · refine q_tabIn (tgt := 501) X dL_law_32 (by rw [hw]; decide) (by rw [hw]; decide) (by rw [hw]; rfl) (by decide) ?_
      obtain ⟨h1, h2, r, c1, c2, hC2⟩ := pair_drop (l := l) hG hK hM (by omega) hC
      refine q_aload_n X 2 dL_law_501 rfl ?_
      refine q_callV (h1 := h1) (rest := []) (As := []) X c1 mf_X9_drop mv_X9_drop cf_X9 rfl (ac_0_0 hT0) lk_L_69 rfl ⟨(Nat.le_of_ble_eq_true rfl), (Nat.le_of_ble_eq_true rfl)⟩ ⟨(Nat.le_of_ble_eq_true rfl), (Nat.le_of_ble_eq_true rfl)⟩ rfl (Nat.le_of_ble_eq_true rfl) dL_law_502 (st2 := [.int r]) rfl ?_
      refine q_aload_n X 1 dL_law_505 rfl ?_
      refine q_callV (h1 := h2) (rest := [.int r]) (As := []) X c2 mf_X10_drop mv_X10_drop cf_X10 rfl (ac_9_0 hT36) lk_L_72 rfl ⟨(Nat.le_of_ble_eq_true rfl), (Nat.le_of_ble_eq_true rfl)⟩ ⟨(Nat.le_of_ble_eq_true rfl), (Nat.le_of_ble_eq_true rfl)⟩ rfl (Nat.le_of_ble_eq_true rfl) dL_law_506 (st2 := [.int r, .int r]) rfl ?_
      exact q_icmp_eq (tgt := 780) X dL_law_509 (by decide) (fun _ => tail h2 hC2) (fun q => absurd rfl q)
    · refine q_tabIn (tgt := 514) X dL_law_32 (by rw [hw]; decide) (by rw [hw]; decide) (by rw [hw]; rfl) (by decide) ?_
      obtain ⟨h1, h2, r, c1, c2, hC2⟩ := pair_takeAway (l := l) hG hK hM (by omega) hC
      refine q_aload_n X 2 dL_law_514 rfl ?_
      refine q_callV (h1 := h1) (rest := []) (As := []) X c1 mf_X9_takeAway mv_X9_takeAway cf_X9 rfl (ac_0_0 hT0) lk_L_73 rfl ⟨(Nat.le_of_ble_eq_true rfl), (Nat.le_of_ble_eq_true rfl)⟩ ⟨(Nat.le_of_ble_eq_true rfl), (Nat.le_of_ble_eq_true rfl)⟩ rfl (Nat.le_of_ble_eq_true rfl) dL_law_515 (st2 := [.int r]) rfl ?_
      refine q_aload_n X 1 dL_law_518 rfl ?_
      refine q_callV (h1 := h2) (rest := [.int r]) (As := []) X c2 mf_X10_takeAway mv_X10_takeAway cf_X10 rfl (ac_9_0 hT36) lk_L_76 rfl ⟨(Nat.le_of_ble_eq_true rfl), (Nat.le_of_ble_eq_true rfl)⟩ ⟨(Nat.le_of_ble_eq_true rfl), (Nat.le_of_ble_eq_true rfl)⟩ rfl (Nat.le_of_ble_eq_true rfl) dL_law_519 (st2 := [.int r, .int r]) rfl ?_
      exact q_icmp_eq (tgt := 780) X dL_law_522 (by decide) (fun _ => tail h2 hC2) (fun q => absurd rfl q)
    · refine q_tabIn (tgt := 527) X dL_law_32 (by rw [hw]; decide) (by rw [hw]; decide) (by rw [hw]; rfl) (by decide) ?_
      obtain ⟨h1, h2, r, c1, c2, hC2⟩ := pair_run (l := l) hG hK hM (by omega) hC (xs (Int32.toNatClampNeg (ii + 1)))
      refine q_aload_n X 2 dL_law_527 rfl ?_
      refine q_aload_n X 3 dL_law_528 rfl ?_
      refine q_iload_n X 0 dL_law_529 rfl ?_
      refine q_iconst (v := 1) X dL_law_530 (by decide) ?_
      refine q_iadd X dL_law_531 ?_
      refine q_sld X hX hbl hbA hv1 dL_law_532 ?_
      refine q_callV (h1 := h1) (rest := []) (As := [.int (xs (Int32.toNatClampNeg (ii + 1)))]) X c1 mf_X9_run mv_X9_run cf_X9 rfl (ac_0_0 hT0) lk_L_77 rfl ⟨(Nat.le_of_ble_eq_true rfl), (Nat.le_of_ble_eq_true rfl)⟩ ⟨(Nat.le_of_ble_eq_true rfl), (Nat.le_of_ble_eq_true rfl)⟩ rfl (Nat.le_of_ble_eq_true rfl) dL_law_533 (st2 := [.int r]) rfl ?_
      refine q_aload_n X 1 dL_law_536 rfl ?_
      refine q_aload_n X 3 dL_law_537 rfl ?_
      refine q_iload_n X 0 dL_law_538 rfl ?_
      refine q_iconst (v := 1) X dL_law_539 (by decide) ?_
      refine q_iadd X dL_law_540 ?_
      refine q_sld X hX hbl hbA hv1 dL_law_541 ?_
      refine q_callV (h1 := h2) (rest := [.int r]) (As := [.int (xs (Int32.toNatClampNeg (ii + 1)))]) X c2 mf_X10_run mv_X10_run cf_X10 rfl (ac_9_0 hT36) lk_L_80 rfl ⟨(Nat.le_of_ble_eq_true rfl), (Nat.le_of_ble_eq_true rfl)⟩ ⟨(Nat.le_of_ble_eq_true rfl), (Nat.le_of_ble_eq_true rfl)⟩ rfl (Nat.le_of_ble_eq_true rfl) dL_law_542 (st2 := [.int r, .int r]) rfl ?_
      exact q_icmp_eq (tgt := 780) X dL_law_545 (by decide) (fun _ => tail h2 hC2) (fun q => absurd rfl q)
    · refine q_tabIn (tgt := 550) X dL_law_32 (by rw [hw]; decide) (by rw [hw]; decide) (by rw [hw]; rfl) (by decide) ?_
      obtain ⟨h1, h2, r, c1, c2, hC2⟩ := pair_undo (l := l) hG hK hM (by omega) hC
      refine q_aload_n X 2 dL_law_550 rfl ?_
      refine q_callV (h1 := h1) (rest := []) (As := []) X c1 mf_X9_undo mv_X9_undo cf_X9 rfl (ac_0_0 hT0) lk_L_81 rfl ⟨(Nat.le_of_ble_eq_true rfl), (Nat.le_of_ble_eq_true rfl)⟩ ⟨(Nat.le_of_ble_eq_true rfl), (Nat.le_of_ble_eq_true rfl)⟩ rfl (Nat.le_of_ble_eq_true rfl) dL_law_551 (st2 := [.int r]) rfl ?_
      refine q_aload_n X 1 dL_law_554 rfl ?_
      refine q_callV (h1 := h2) (rest := [.int r]) (As := []) X c2 mf_X10_undo mv_X10_undo cf_X10 rfl (ac_9_0 hT36) lk_L_84 rfl ⟨(Nat.le_of_ble_eq_true rfl), (Nat.le_of_ble_eq_true rfl)⟩ ⟨(Nat.le_of_ble_eq_true rfl), (Nat.le_of_ble_eq_true rfl)⟩ rfl (Nat.le_of_ble_eq_true rfl) dL_law_555 (st2 := [.int r, .int r]) rfl ?_
      exact q_icmp_eq (tgt := 780) X dL_law_558 (by decide) (fun _ => tail h2 hC2) (fun q => absurd rfl q)
    · refine q_tabIn (tgt := 563) X dL_law_32 (by rw [hw]; decide) (by rw [hw]; decide) (by rw [hw]; rfl) (by decide) ?_
      obtain ⟨h1, h2, r, c1, c2, hC2⟩ := pair_count (l := l) hG hK hM (by omega) hC (xs (Int32.toNatClampNeg (ii + 1)))
      refine q_aload_n X 2 dL_law_563 rfl ?_
      refine q_aload_n X 3 dL_law_564 rfl ?_
      refine q_iload_n X 0 dL_law_565 rfl ?_
      refine q_iconst (v := 1) X dL_law_566 (by decide) ?_
      refine q_iadd X dL_law_567 ?_
      refine q_sld X hX hbl hbA hv1 dL_law_568 ?_
      refine q_callV (h1 := h1) (rest := []) (As := [.int (xs (Int32.toNatClampNeg (ii + 1)))]) X c1 mf_X9_count mv_X9_count cf_X9 rfl (ac_0_0 hT0) lk_L_85 rfl ⟨(Nat.le_of_ble_eq_true rfl), (Nat.le_of_ble_eq_true rfl)⟩ ⟨(Nat.le_of_ble_eq_true rfl), (Nat.le_of_ble_eq_true rfl)⟩ rfl (Nat.le_of_ble_eq_true rfl) dL_law_569 (st2 := [.int r]) rfl ?_
      refine q_aload_n X 1 dL_law_572 rfl ?_
      refine q_aload_n X 3 dL_law_573 rfl ?_
      refine q_iload_n X 0 dL_law_574 rfl ?_
      refine q_iconst (v := 1) X dL_law_575 (by decide) ?_
      refine q_iadd X dL_law_576 ?_
      refine q_sld X hX hbl hbA hv1 dL_law_577 ?_
      refine q_callV (h1 := h2) (rest := [.int r]) (As := [.int (xs (Int32.toNatClampNeg (ii + 1)))]) X c2 mf_X10_count mv_X10_count cf_X10 rfl (ac_9_0 hT36) lk_L_88 rfl ⟨(Nat.le_of_ble_eq_true rfl), (Nat.le_of_ble_eq_true rfl)⟩ ⟨(Nat.le_of_ble_eq_true rfl), (Nat.le_of_ble_eq_true rfl)⟩ rfl (Nat.le_of_ble_eq_true rfl) dL_law_578 (st2 := [.int r, .int r]) rfl ?_
      exact q_icmp_eq (tgt := 780) X dL_law_581 (by decide) (fun _ => tail h2 hC2) (fun q => absurd rfl q)
    · refine q_tabIn (tgt := 586) X dL_law_32 (by rw [hw]; decide) (by rw [hw]; decide) (by rw [hw]; rfl) (by decide) ?_
      obtain ⟨h1, h2, r, c1, c2, hC2⟩ := pair_batch (l := l) hG hK hM (by omega) hC (xs (Int32.toNatClampNeg (ii + 1)))
      refine q_aload_n X 2 dL_law_586 rfl ?_
      refine q_aload_n X 3 dL_law_587 rfl ?_
      refine q_iload_n X 0 dL_law_588 rfl ?_
      refine q_iconst (v := 1) X dL_law_589 (by decide) ?_
      refine q_iadd X dL_law_590 ?_
      refine q_sld X hX hbl hbA hv1 dL_law_591 ?_
      refine q_callV (h1 := h1) (rest := []) (As := [.int (xs (Int32.toNatClampNeg (ii + 1)))]) X c1 mf_X9_batch mv_X9_batch cf_X9 rfl (ac_0_0 hT0) lk_L_89 rfl ⟨(Nat.le_of_ble_eq_true rfl), (Nat.le_of_ble_eq_true rfl)⟩ ⟨(Nat.le_of_ble_eq_true rfl), (Nat.le_of_ble_eq_true rfl)⟩ rfl (Nat.le_of_ble_eq_true rfl) dL_law_592 (st2 := [.int r]) rfl ?_
      refine q_aload_n X 1 dL_law_595 rfl ?_
      refine q_aload_n X 3 dL_law_596 rfl ?_
      refine q_iload_n X 0 dL_law_597 rfl ?_
      refine q_iconst (v := 1) X dL_law_598 (by decide) ?_
      refine q_iadd X dL_law_599 ?_
      refine q_sld X hX hbl hbA hv1 dL_law_600 ?_
      refine q_callV (h1 := h2) (rest := [.int r]) (As := [.int (xs (Int32.toNatClampNeg (ii + 1)))]) X c2 mf_X10_batch mv_X10_batch cf_X10 rfl (ac_9_0 hT36) lk_L_92 rfl ⟨(Nat.le_of_ble_eq_true rfl), (Nat.le_of_ble_eq_true rfl)⟩ ⟨(Nat.le_of_ble_eq_true rfl), (Nat.le_of_ble_eq_true rfl)⟩ rfl (Nat.le_of_ble_eq_true rfl) dL_law_601 (st2 := [.int r, .int r]) rfl ?_
      exact q_icmp_eq (tgt := 780) X dL_law_604 (by decide) (fun _ => tail h2 hC2) (fun q => absurd rfl q)
    · refine q_tabIn (tgt := 609) X dL_law_32 (by rw [hw]; decide) (by rw [hw]; decide) (by rw [hw]; rfl) (by decide) ?_
      obtain ⟨h1, h2, r, c1, c2, hC2⟩ := pair_target (l := l) hG hK hM (by omega) hC (xs (Int32.toNatClampNeg (ii + 1)))
      refine q_aload_n X 2 dL_law_609 rfl ?_
      refine q_aload_n X 3 dL_law_610 rfl ?_
      refine q_iload_n X 0 dL_law_611 rfl ?_
      refine q_iconst (v := 1) X dL_law_612 (by decide) ?_
      refine q_iadd X dL_law_613 ?_
      refine q_sld X hX hbl hbA hv1 dL_law_614 ?_
      refine q_callV (h1 := h1) (rest := []) (As := [.int (xs (Int32.toNatClampNeg (ii + 1)))]) X c1 mf_X9_target mv_X9_target cf_X9 rfl (ac_0_0 hT0) lk_L_93 rfl ⟨(Nat.le_of_ble_eq_true rfl), (Nat.le_of_ble_eq_true rfl)⟩ ⟨(Nat.le_of_ble_eq_true rfl), (Nat.le_of_ble_eq_true rfl)⟩ rfl (Nat.le_of_ble_eq_true rfl) dL_law_615 (st2 := [.int r]) rfl ?_
      refine q_aload_n X 1 dL_law_618 rfl ?_
      refine q_aload_n X 3 dL_law_619 rfl ?_
      refine q_iload_n X 0 dL_law_620 rfl ?_
      refine q_iconst (v := 1) X dL_law_621 (by decide) ?_
      refine q_iadd X dL_law_622 ?_
      refine q_sld X hX hbl hbA hv1 dL_law_623 ?_
      refine q_callV (h1 := h2) (rest := [.int r]) (As := [.int (xs (Int32.toNatClampNeg (ii + 1)))]) X c2 mf_X10_target mv_X10_target cf_X10 rfl (ac_9_0 hT36) lk_L_96 rfl ⟨(Nat.le_of_ble_eq_true rfl), (Nat.le_of_ble_eq_true rfl)⟩ ⟨(Nat.le_of_ble_eq_true rfl), (Nat.le_of_ble_eq_true rfl)⟩ rfl (Nat.le_of_ble_eq_true rfl) dL_law_624 (st2 := [.int r, .int r]) rfl ?_
      exact q_icmp_eq (tgt := 780) X dL_law_627 (by decide) (fun _ => tail h2 hC2) (fun q => absurd rfl q)
    · refine q_tabIn (tgt := 632) X dL_law_32 (by rw [hw]; decide) (by rw [hw]; decide) (by rw [hw]; rfl) (by decide) ?_
      obtain ⟨h1, h2, r, c1, c2, hC2⟩ := pair_rate (l := l) hG hK hM (by omega) hC (xs (Int32.toNatClampNeg (ii + 1)))
      refine q_aload_n X 2 dL_law_632 rfl ?_
      refine q_aload_n X 3 dL_law_633 rfl ?_
      refine q_iload_n X 0 dL_law_634 rfl ?_
      refine q_iconst (v := 1) X dL_law_635 (by decide) ?_
      refine q_iadd X dL_law_636 ?_
      refine q_sld X hX hbl hbA hv1 dL_law_637 ?_
      refine q_callV (h1 := h1) (rest := []) (As := [.int (xs (Int32.toNatClampNeg (ii + 1)))]) X c1 mf_X9_rate mv_X9_rate cf_X9 rfl (ac_0_0 hT0) lk_L_97 rfl ⟨(Nat.le_of_ble_eq_true rfl), (Nat.le_of_ble_eq_true rfl)⟩ ⟨(Nat.le_of_ble_eq_true rfl), (Nat.le_of_ble_eq_true rfl)⟩ rfl (Nat.le_of_ble_eq_true rfl) dL_law_638 (st2 := [.int r]) rfl ?_
      refine q_aload_n X 1 dL_law_641 rfl ?_
      refine q_aload_n X 3 dL_law_642 rfl ?_
      refine q_iload_n X 0 dL_law_643 rfl ?_
      refine q_iconst (v := 1) X dL_law_644 (by decide) ?_
      refine q_iadd X dL_law_645 ?_
      refine q_sld X hX hbl hbA hv1 dL_law_646 ?_
      refine q_callV (h1 := h2) (rest := [.int r]) (As := [.int (xs (Int32.toNatClampNeg (ii + 1)))]) X c2 mf_X10_rate mv_X10_rate cf_X10 rfl (ac_9_0 hT36) lk_L_100 rfl ⟨(Nat.le_of_ble_eq_true rfl), (Nat.le_of_ble_eq_true rfl)⟩ ⟨(Nat.le_of_ble_eq_true rfl), (Nat.le_of_ble_eq_true rfl)⟩ rfl (Nat.le_of_ble_eq_true rfl) dL_law_647 (st2 := [.int r, .int r]) rfl ?_
      exact q_icmp_eq (tgt := 780) X dL_law_650 (by decide) (fun _ => tail h2 hC2) (fun q => absurd rfl q)
    · refine q_tabIn (tgt := 655) X dL_law_32 (by rw [hw]; decide) (by rw [hw]; decide) (by rw [hw]; rfl) (by decide) ?_
      obtain ⟨h1, h2, r, c1, c2, hC2⟩ := pair_logged (l := l) hG hK hM (by omega) hC (xs (Int32.toNatClampNeg (ii + 1))) (xs (Int32.toNatClampNeg (ii + 2)))
      refine q_aload_n X 2 dL_law_655 rfl ?_
      refine q_aload_n X 3 dL_law_656 rfl ?_
      refine q_iload_n X 0 dL_law_657 rfl ?_
      refine q_iconst (v := 1) X dL_law_658 (by decide) ?_
      refine q_iadd X dL_law_659 ?_
      refine q_sld X hX hbl hbA hv1 dL_law_660 ?_
      refine q_aload_n X 3 dL_law_661 rfl ?_
      refine q_iload_n X 0 dL_law_662 rfl ?_
      refine q_iconst (v := 2) X dL_law_663 (by decide) ?_
      refine q_iadd X dL_law_664 ?_
      refine q_sld X hX hbl hbA hv2 dL_law_665 ?_
      refine q_callV (h1 := h1) (rest := []) (As := [.int (xs (Int32.toNatClampNeg (ii + 1))), .int (xs (Int32.toNatClampNeg (ii + 2)))]) X c1 mf_X9_logged mv_X9_logged cf_X9 rfl (ac_0_0 hT0) lk_L_101 rfl ⟨(Nat.le_of_ble_eq_true rfl), (Nat.le_of_ble_eq_true rfl)⟩ ⟨(Nat.le_of_ble_eq_true rfl), (Nat.le_of_ble_eq_true rfl)⟩ rfl (Nat.le_of_ble_eq_true rfl) dL_law_666 (st2 := [.int r]) rfl ?_
      refine q_aload_n X 1 dL_law_669 rfl ?_
      refine q_aload_n X 3 dL_law_670 rfl ?_
      refine q_iload_n X 0 dL_law_671 rfl ?_
      refine q_iconst (v := 1) X dL_law_672 (by decide) ?_
      refine q_iadd X dL_law_673 ?_
      refine q_sld X hX hbl hbA hv1 dL_law_674 ?_
      refine q_aload_n X 3 dL_law_675 rfl ?_
      refine q_iload_n X 0 dL_law_676 rfl ?_
      refine q_iconst (v := 2) X dL_law_677 (by decide) ?_
      refine q_iadd X dL_law_678 ?_
      refine q_sld X hX hbl hbA hv2 dL_law_679 ?_
      refine q_callV (h1 := h2) (rest := [.int r]) (As := [.int (xs (Int32.toNatClampNeg (ii + 1))), .int (xs (Int32.toNatClampNeg (ii + 2)))]) X c2 mf_X10_logged mv_X10_logged cf_X10 rfl (ac_9_0 hT36) lk_L_104 rfl ⟨(Nat.le_of_ble_eq_true rfl), (Nat.le_of_ble_eq_true rfl)⟩ ⟨(Nat.le_of_ble_eq_true rfl), (Nat.le_of_ble_eq_true rfl)⟩ rfl (Nat.le_of_ble_eq_true rfl) dL_law_680 (st2 := [.int r, .int r]) rfl ?_
      exact q_icmp_eq (tgt := 780) X dL_law_683 (by decide) (fun _ => tail h2 hC2) (fun q => absurd rfl q)
    · refine q_tabIn (tgt := 688) X dL_law_32 (by rw [hw]; decide) (by rw [hw]; decide) (by rw [hw]; rfl) (by decide) ?_
      obtain ⟨h1, h2, r, c1, c2, hC2⟩ := pair_drift (l := l) hG hK hM (by omega) hC (xs (Int32.toNatClampNeg (ii + 1)))
      refine q_aload_n X 2 dL_law_688 rfl ?_
      refine q_aload_n X 3 dL_law_689 rfl ?_
      refine q_iload_n X 0 dL_law_690 rfl ?_
      refine q_iconst (v := 1) X dL_law_691 (by decide) ?_
      refine q_iadd X dL_law_692 ?_
      refine q_sld X hX hbl hbA hv1 dL_law_693 ?_
      refine q_callV (h1 := h1) (rest := []) (As := [.int (xs (Int32.toNatClampNeg (ii + 1)))]) X c1 mf_X9_drift mv_X9_drift cf_X9 rfl (ac_0_0 hT0) lk_L_105 rfl ⟨(Nat.le_of_ble_eq_true rfl), (Nat.le_of_ble_eq_true rfl)⟩ ⟨(Nat.le_of_ble_eq_true rfl), (Nat.le_of_ble_eq_true rfl)⟩ rfl (Nat.le_of_ble_eq_true rfl) dL_law_694 (st2 := [.int r]) rfl ?_
      refine q_aload_n X 1 dL_law_697 rfl ?_
      refine q_aload_n X 3 dL_law_698 rfl ?_
      refine q_iload_n X 0 dL_law_699 rfl ?_
      refine q_iconst (v := 1) X dL_law_700 (by decide) ?_
      refine q_iadd X dL_law_701 ?_
      refine q_sld X hX hbl hbA hv1 dL_law_702 ?_
      refine q_callV (h1 := h2) (rest := [.int r]) (As := [.int (xs (Int32.toNatClampNeg (ii + 1)))]) X c2 mf_X10_drift mv_X10_drift cf_X10 rfl (ac_9_0 hT36) lk_L_108 rfl ⟨(Nat.le_of_ble_eq_true rfl), (Nat.le_of_ble_eq_true rfl)⟩ ⟨(Nat.le_of_ble_eq_true rfl), (Nat.le_of_ble_eq_true rfl)⟩ rfl (Nat.le_of_ble_eq_true rfl) dL_law_703 (st2 := [.int r, .int r]) rfl ?_
      exact q_icmp_eq (tgt := 780) X dL_law_706 (by decide) (fun _ => tail h2 hC2) (fun q => absurd rfl q)
    · refine q_tabIn (tgt := 711) X dL_law_32 (by rw [hw]; decide) (by rw [hw]; decide) (by rw [hw]; rfl) (by decide) ?_
      obtain ⟨h1, h2, r, c1, c2, hC2⟩ := pair_ticksTo (l := l) hG hK hM (by omega) hC (xs (Int32.toNatClampNeg (ii + 1)))
      refine q_aload_n X 2 dL_law_711 rfl ?_
      refine q_aload_n X 3 dL_law_712 rfl ?_
      refine q_iload_n X 0 dL_law_713 rfl ?_
      refine q_iconst (v := 1) X dL_law_714 (by decide) ?_
      refine q_iadd X dL_law_715 ?_
      refine q_sld X hX hbl hbA hv1 dL_law_716 ?_
      refine q_callV (h1 := h1) (rest := []) (As := [.int (xs (Int32.toNatClampNeg (ii + 1)))]) X c1 mf_X9_ticksTo mv_X9_ticksTo cf_X9 rfl (ac_0_0 hT0) lk_L_109 rfl ⟨(Nat.le_of_ble_eq_true rfl), (Nat.le_of_ble_eq_true rfl)⟩ ⟨(Nat.le_of_ble_eq_true rfl), (Nat.le_of_ble_eq_true rfl)⟩ rfl (Nat.le_of_ble_eq_true rfl) dL_law_717 (st2 := [.int r]) rfl ?_
      refine q_aload_n X 1 dL_law_720 rfl ?_
      refine q_aload_n X 3 dL_law_721 rfl ?_
      refine q_iload_n X 0 dL_law_722 rfl ?_
      refine q_iconst (v := 1) X dL_law_723 (by decide) ?_
      refine q_iadd X dL_law_724 ?_
      refine q_sld X hX hbl hbA hv1 dL_law_725 ?_
      refine q_callV (h1 := h2) (rest := [.int r]) (As := [.int (xs (Int32.toNatClampNeg (ii + 1)))]) X c2 mf_X10_ticksTo mv_X10_ticksTo cf_X10 rfl (ac_9_0 hT36) lk_L_112 rfl ⟨(Nat.le_of_ble_eq_true rfl), (Nat.le_of_ble_eq_true rfl)⟩ ⟨(Nat.le_of_ble_eq_true rfl), (Nat.le_of_ble_eq_true rfl)⟩ rfl (Nat.le_of_ble_eq_true rfl) dL_law_726 (st2 := [.int r, .int r]) rfl ?_
      exact q_icmp_eq (tgt := 780) X dL_law_729 (by decide) (fun _ => tail h2 hC2) (fun q => absurd rfl q)
    · refine q_tabIn (tgt := 734) X dL_law_32 (by rw [hw]; decide) (by rw [hw]; decide) (by rw [hw]; rfl) (by decide) ?_
      obtain ⟨h1, h2, r, c1, c2, hC2⟩ := pair_ticksToLoss (l := l) hG hK hM (by omega) hC (xs (Int32.toNatClampNeg (ii + 1)))
      refine q_aload_n X 2 dL_law_734 rfl ?_
      refine q_aload_n X 3 dL_law_735 rfl ?_
      refine q_iload_n X 0 dL_law_736 rfl ?_
      refine q_iconst (v := 1) X dL_law_737 (by decide) ?_
      refine q_iadd X dL_law_738 ?_
      refine q_sld X hX hbl hbA hv1 dL_law_739 ?_
      refine q_callV (h1 := h1) (rest := []) (As := [.int (xs (Int32.toNatClampNeg (ii + 1)))]) X c1 mf_X9_ticksToLoss mv_X9_ticksToLoss cf_X9 rfl (ac_0_0 hT0) lk_L_113 rfl ⟨(Nat.le_of_ble_eq_true rfl), (Nat.le_of_ble_eq_true rfl)⟩ ⟨(Nat.le_of_ble_eq_true rfl), (Nat.le_of_ble_eq_true rfl)⟩ rfl (Nat.le_of_ble_eq_true rfl) dL_law_740 (st2 := [.int r]) rfl ?_
      refine q_aload_n X 1 dL_law_743 rfl ?_
      refine q_aload_n X 3 dL_law_744 rfl ?_
      refine q_iload_n X 0 dL_law_745 rfl ?_
      refine q_iconst (v := 1) X dL_law_746 (by decide) ?_
      refine q_iadd X dL_law_747 ?_
      refine q_sld X hX hbl hbA hv1 dL_law_748 ?_
      refine q_callV (h1 := h2) (rest := [.int r]) (As := [.int (xs (Int32.toNatClampNeg (ii + 1)))]) X c2 mf_X10_ticksToLoss mv_X10_ticksToLoss cf_X10 rfl (ac_9_0 hT36) lk_L_116 rfl ⟨(Nat.le_of_ble_eq_true rfl), (Nat.le_of_ble_eq_true rfl)⟩ ⟨(Nat.le_of_ble_eq_true rfl), (Nat.le_of_ble_eq_true rfl)⟩ rfl (Nat.le_of_ble_eq_true rfl) dL_law_749 (st2 := [.int r, .int r]) rfl ?_
      exact q_icmp_eq (tgt := 780) X dL_law_752 (by decide) (fun _ => tail h2 hC2) (fun q => absurd rfl q)
    · refine q_tabIn (tgt := 757) X dL_law_32 (by rw [hw]; decide) (by rw [hw]; decide) (by rw [hw]; rfl) (by decide) ?_
      obtain ⟨h1, h2, r, c1, c2, hC2⟩ := pair_bestBias (l := l) hG hK hM (by omega) hC (xs (Int32.toNatClampNeg (ii + 1)))
      refine q_aload_n X 2 dL_law_757 rfl ?_
      refine q_aload_n X 3 dL_law_758 rfl ?_
      refine q_iload_n X 0 dL_law_759 rfl ?_
      refine q_iconst (v := 1) X dL_law_760 (by decide) ?_
      refine q_iadd X dL_law_761 ?_
      refine q_sld X hX hbl hbA hv1 dL_law_762 ?_
      refine q_callV (h1 := h1) (rest := []) (As := [.int (xs (Int32.toNatClampNeg (ii + 1)))]) X c1 mf_X9_bestBias mv_X9_bestBias cf_X9 rfl (ac_0_0 hT0) lk_L_117 rfl ⟨(Nat.le_of_ble_eq_true rfl), (Nat.le_of_ble_eq_true rfl)⟩ ⟨(Nat.le_of_ble_eq_true rfl), (Nat.le_of_ble_eq_true rfl)⟩ rfl (Nat.le_of_ble_eq_true rfl) dL_law_763 (st2 := [.int r]) rfl ?_
      refine q_aload_n X 1 dL_law_766 rfl ?_
      refine q_aload_n X 3 dL_law_767 rfl ?_
      refine q_iload_n X 0 dL_law_768 rfl ?_
      refine q_iconst (v := 1) X dL_law_769 (by decide) ?_
      refine q_iadd X dL_law_770 ?_
      refine q_sld X hX hbl hbA hv1 dL_law_771 ?_
      refine q_callV (h1 := h2) (rest := [.int r]) (As := [.int (xs (Int32.toNatClampNeg (ii + 1)))]) X c2 mf_X10_bestBias mv_X10_bestBias cf_X10 rfl (ac_9_0 hT36) lk_L_120 rfl ⟨(Nat.le_of_ble_eq_true rfl), (Nat.le_of_ble_eq_true rfl)⟩ ⟨(Nat.le_of_ble_eq_true rfl), (Nat.le_of_ble_eq_true rfl)⟩ rfl (Nat.le_of_ble_eq_true rfl) dL_law_772 (st2 := [.int r, .int r]) rfl ?_
      exact q_icmp_eq (tgt := 780) X dL_law_775 (by decide) (fun _ => tail h2 hC2) (fun q => absurd rfl q)
