theorem pair_setAmbient {G : Geo} {l : Launch} {N : Nat} {h : Hp} (hG : GOK G) (hK : KT G) (hM : MT G) (hN : N ≤ 1000) (hC : CI N h (h 36) (h 37) (h 39) (h 40)) (am : Int32) : ∃ (h1 h2 : Hp) (r : Int32), CM G l yX9_setAmbient cX9_setAmbient 3 (some .int) 6 166 [.ref (gA G 0 0), .int am] h h1 (some (.int r)) ∧ CM G l yX10_setAmbient cX10_setAmbient 2 (some .int) 2 44 [.ref (gA G 36 0), .int am] h1 h2 (some (.int r)) ∧ LI (N + 1) h2 := by
  obtain ⟨e1, e2⟩ := setAmbient_eq (by omega) hC am
  have f := fun (g : Nat) (hg : 36 ≤ g) => fr_setAmbient h am hg
  have c1 := c_X9_setAmbient (l := l) hG (h := h) am hK
  have c2 := c_X10_setAmbient (l := l) hG (h := (S_X9_setAmbient h am).2) (κ := h 36) (σ := h 37) (β := h 39) am hM (f 36 (by decide)) (f 37 (by decide)) (f 39 (by decide)) hC.sm
  rw [← e1] at c2
  clear e1
  generalize S_X9_setAmbient h am = Z at *
  generalize S_X10_setAmbient (h 36) (h 37) (h 39) am = Y at *
  exact ⟨_, _, _, c1, c2, LI_of e2 (fun g hg => by rw [va_up_ne _ _ (show g ≠ 39 by omega), va_up_ne _ _ (show g ≠ 37 by omega), va_up_ne _ _ (show g ≠ 36 by omega)]) rfl rfl rfl (f 40 (by decide))⟩
theorem pair_setPower {G : Geo} {l : Launch} {N : Nat} {h : Hp} (hG : GOK G) (hK : KT G) (hM : MT G) (hN : N ≤ 1000) (hC : CI N h (h 36) (h 37) (h 39) (h 40)) (po : Int32) : ∃ (h1 h2 : Hp) (r : Int32), CM G l yX9_setPower cX9_setPower 3 (some .int) 6 166 [.ref (gA G 0 0), .int po] h h1 (some (.int r)) ∧ CM G l yX10_setPower cX10_setPower 2 (some .int) 2 44 [.ref (gA G 36 0), .int po] h1 h2 (some (.int r)) ∧ LI (N + 1) h2 := by
  obtain ⟨e1, e2⟩ := setPower_eq (by omega) hC po
  have f := fun (g : Nat) (hg : 36 ≤ g) => fr_setPower h po hg
  have c1 := c_X9_setPower (l := l) hG (h := h) po hK
  have c2 := c_X10_setPower (l := l) hG (h := (S_X9_setPower h po).2) (κ := h 36) (σ := h 37) (β := h 39) po hM (f 36 (by decide)) (f 37 (by decide)) (f 39 (by decide)) hC.sm
  rw [← e1] at c2
  clear e1
  generalize S_X9_setPower h po = Z at *
  generalize S_X10_setPower (h 36) (h 37) (h 39) po = Y at *
  exact ⟨_, _, _, c1, c2, LI_of e2 (fun g hg => by rw [va_up_ne _ _ (show g ≠ 39 by omega), va_up_ne _ _ (show g ≠ 37 by omega), va_up_ne _ _ (show g ≠ 36 by omega)]) rfl rfl rfl (f 40 (by decide))⟩
theorem pair_setController {G : Geo} {l : Launch} {N : Nat} {h : Hp} (hG : GOK G) (hK : KT G) (hM : MT G) (hN : N ≤ 1000) (hC : CI N h (h 36) (h 37) (h 39) (h 40)) (on pp ii bi : Int32) : ∃ (h1 h2 : Hp) (r : Int32), CM G l yX9_setController cX9_setController 6 (some .int) 6 166 [.ref (gA G 0 0), .int on, .int pp, .int ii, .int bi] h h1 (some (.int r)) ∧ CM G l yX10_setController cX10_setController 6 (some .int) 1 22 [.ref (gA G 36 0), .int on, .int pp, .int ii, .int bi] h1 h2 (some (.int r)) ∧ LI (N + 1) h2 := by
  obtain ⟨e1, e2⟩ := setController_eq (by omega) hC on pp ii bi
  have f := fun (g : Nat) (hg : 36 ≤ g) => fr_setController h on pp ii bi hg
  have c1 := c_X9_setController (l := l) hG (h := h) on pp ii bi hK
  have c2 := c_X10_setController (l := l) hG (h := (S_X9_setController h on pp ii bi).2) (κ := h 36) (σ := h 37) (β := h 39) on pp ii bi hM (f 36 (by decide)) (f 37 (by decide)) (f 39 (by decide)) hC.sm
  rw [← e1] at c2
  clear e1
  generalize S_X9_setController h on pp ii bi = Z at *
  generalize S_X10_setController (h 36) (h 37) (h 39) on pp ii bi = Y at *
  exact ⟨_, _, _, c1, c2, LI_of e2 (fun g hg => by rw [va_up_ne _ _ (show g ≠ 39 by omega), va_up_ne _ _ (show g ≠ 37 by omega), va_up_ne _ _ (show g ≠ 36 by omega)]) rfl rfl rfl (f 40 (by decide))⟩
theorem pair_setProbe {G : Geo} {l : Launch} {N : Nat} {h : Hp} (hG : GOK G) (hK : KT G) (hM : MT G) (hN : N ≤ 1000) (hC : CI N h (h 36) (h 37) (h 39) (h 40)) (la fo : Int32) : ∃ (h1 h2 : Hp) (r : Int32), CM G l yX9_setProbe cX9_setProbe 4 (some .int) 6 166 [.ref (gA G 0 0), .int la, .int fo] h h1 (some (.int r)) ∧ CM G l yX10_setProbe cX10_setProbe 4 (some .int) 2 44 [.ref (gA G 36 0), .int la, .int fo] h1 h2 (some (.int r)) ∧ LI (N + 1) h2 := by
  obtain ⟨e1, e2⟩ := setProbe_eq (by omega) hC la fo
  have f := fun (g : Nat) (hg : 36 ≤ g) => fr_setProbe h la fo hg
  have c1 := c_X9_setProbe (l := l) hG (h := h) la fo hK
  have c2 := c_X10_setProbe (l := l) hG (h := (S_X9_setProbe h la fo).2) (κ := h 36) (σ := h 37) (β := h 39) la fo hM (f 36 (by decide)) (f 37 (by decide)) (f 39 (by decide)) hC.sm
  rw [← e1] at c2
  clear e1
  generalize S_X9_setProbe h la fo = Z at *
  generalize S_X10_setProbe (h 36) (h 37) (h 39) la fo = Y at *
  exact ⟨_, _, _, c1, c2, LI_of e2 (fun g hg => by rw [va_up_ne _ _ (show g ≠ 39 by omega), va_up_ne _ _ (show g ≠ 37 by omega), va_up_ne _ _ (show g ≠ 36 by omega)]) rfl rfl rfl (f 40 (by decide))⟩
theorem pair_setCrack {G : Geo} {l : Launch} {N : Nat} {h : Hp} (hG : GOK G) (hK : KT G) (hM : MT G) (hN : N ≤ 1000) (hC : CI N h (h 36) (h 37) (h 39) (h 40)) (te th : Int32) : ∃ (h1 h2 : Hp) (r : Int32), CM G l yX9_setCrack cX9_setCrack 4 (some .int) 6 166 [.ref (gA G 0 0), .int te, .int th] h h1 (some (.int r)) ∧ CM G l yX10_setCrack cX10_setCrack 4 (some .int) 1 22 [.ref (gA G 36 0), .int te, .int th] h1 h2 (some (.int r)) ∧ LI (N + 1) h2 := by
  obtain ⟨e1, e2⟩ := setCrack_eq (by omega) hC te th
  have f := fun (g : Nat) (hg : 36 ≤ g) => fr_setCrack h te th hg
  have c1 := c_X9_setCrack (l := l) hG (h := h) te th hK
  have c2 := c_X10_setCrack (l := l) hG (h := (S_X9_setCrack h te th).2) (κ := h 36) (σ := h 37) (β := h 39) te th hM (f 36 (by decide)) (f 37 (by decide)) (f 39 (by decide)) hC.sm
  rw [← e1] at c2
  clear e1
  generalize S_X9_setCrack h te th = Z at *
  generalize S_X10_setCrack (h 36) (h 37) (h 39) te th = Y at *
  exact ⟨_, _, _, c1, c2, LI_of e2 (fun g hg => by rw [va_up_ne _ _ (show g ≠ 39 by omega), va_up_ne _ _ (show g ≠ 37 by omega), va_up_ne _ _ (show g ≠ 36 by omega)]) rfl rfl rfl (f 40 (by decide))⟩
theorem pair_setFan {G : Geo} {l : Launch} {N : Nat} {h : Hp} (hG : GOK G) (hK : KT G) (hM : MT G) (hN : N ≤ 1000) (hC : CI N h (h 36) (h 37) (h 39) (h 40)) (fa : Int32) : ∃ (h1 h2 : Hp) (r : Int32), CM G l yX9_setFan cX9_setFan 3 (some .int) 6 166 [.ref (gA G 0 0), .int fa] h h1 (some (.int r)) ∧ CM G l yX10_setFan cX10_setFan 2 (some .int) 2 44 [.ref (gA G 36 0), .int fa] h1 h2 (some (.int r)) ∧ LI (N + 1) h2 := by
  obtain ⟨e1, e2⟩ := setFan_eq (by omega) hC fa
  have f := fun (g : Nat) (hg : 36 ≤ g) => fr_setFan h fa hg
  have c1 := c_X9_setFan (l := l) hG (h := h) fa hK
  have c2 := c_X10_setFan (l := l) hG (h := (S_X9_setFan h fa).2) (κ := h 36) (σ := h 37) (β := h 39) fa hM (f 36 (by decide)) (f 37 (by decide)) (f 39 (by decide)) hC.sm
  rw [← e1] at c2
  clear e1
  generalize S_X9_setFan h fa = Z at *
  generalize S_X10_setFan (h 36) (h 37) (h 39) fa = Y at *
  exact ⟨_, _, _, c1, c2, LI_of e2 (fun g hg => by rw [va_up_ne _ _ (show g ≠ 39 by omega), va_up_ne _ _ (show g ≠ 37 by omega), va_up_ne _ _ (show g ≠ 36 by omega)]) rfl rfl rfl (f 40 (by decide))⟩
theorem pair_setPoint {G : Geo} {l : Launch} {N : Nat} {h : Hp} (hG : GOK G) (hK : KT G) (hM : MT G) (hN : N ≤ 1000) (hC : CI N h (h 36) (h 37) (h 39) (h 40)) (ti te : Int32) : ∃ (h1 h2 : Hp) (r : Int32), CM G l yX9_setPoint cX9_setPoint 3 (some .int) 6 166 [.ref (gA G 0 0), .int ti, .int te] h h1 (some (.int r)) ∧ CM G l yX10_setPoint cX10_setPoint 4 (some .int) 2 50 [.ref (gA G 36 0), .int ti, .int te] h1 h2 (some (.int r)) ∧ LI (N + 1) h2 := by
  obtain ⟨e1, e2⟩ := setPoint_eq (by omega) hC ti te
  have f := fun (g : Nat) (hg : 36 ≤ g) => fr_setPoint h ti te hg
  have c1 := c_X9_setPoint (l := l) hG (h := h) ti te hK
  have c2 := c_X10_setPoint (l := l) hG (h := (S_X9_setPoint h ti te).2) (κ := h 36) (σ := h 37) (β := h 39) ti te hM (f 36 (by decide)) (f 37 (by decide)) (f 39 (by decide)) hC.sm hC.mi
  rw [← e1] at c2
  clear e1
  generalize S_X9_setPoint h ti te = Z at *
  generalize S_X10_setPoint (h 36) (h 37) (h 39) ti te = Y at *
  exact ⟨_, _, _, c1, c2, LI_of e2 (fun g hg => by rw [va_up_ne _ _ (show g ≠ 39 by omega), va_up_ne _ _ (show g ≠ 37 by omega), va_up_ne _ _ (show g ≠ 36 by omega)]) rfl rfl rfl (f 40 (by decide))⟩
theorem pair_removePoint {G : Geo} {l : Launch} {N : Nat} {h : Hp} (hG : GOK G) (hK : KT G) (hM : MT G) (hN : N ≤ 1000) (hC : CI N h (h 36) (h 37) (h 39) (h 40)) (ti : Int32) : ∃ (h1 h2 : Hp) (r : Int32), CM G l yX9_removePoint cX9_removePoint 3 (some .int) 6 166 [.ref (gA G 0 0), .int ti] h h1 (some (.int r)) ∧ CM G l yX10_removePoint cX10_removePoint 4 (some .int) 1 24 [.ref (gA G 36 0), .int ti] h1 h2 (some (.int r)) ∧ LI (N + 1) h2 := by
  obtain ⟨e1, e2⟩ := removePoint_eq (by omega) hC ti
  have f := fun (g : Nat) (hg : 36 ≤ g) => fr_removePoint h ti hg
  have c1 := c_X9_removePoint (l := l) hG (h := h) ti hK
  have c2 := c_X10_removePoint (l := l) hG (h := (S_X9_removePoint h ti).2) (κ := h 36) (σ := h 37) (β := h 39) ti hM (f 36 (by decide)) (f 37 (by decide)) (f 39 (by decide)) hC.sm hC.mi
  rw [← e1] at c2
  clear e1
  generalize S_X9_removePoint h ti = Z at *
  generalize S_X10_removePoint (h 36) (h 37) (h 39) ti = Y at *
  exact ⟨_, _, _, c1, c2, LI_of e2 (fun g hg => by rw [va_up_ne _ _ (show g ≠ 39 by omega), va_up_ne _ _ (show g ≠ 37 by omega), va_up_ne _ _ (show g ≠ 36 by omega)]) rfl rfl rfl (f 40 (by decide))⟩
theorem pair_setRow {G : Geo} {l : Launch} {N : Nat} {h : Hp} (hG : GOK G) (hK : KT G) (hM : MT G) (hN : N ≤ 1000) (hC : CI N h (h 36) (h 37) (h 39) (h 40)) (te ra : Int32) : ∃ (h1 h2 : Hp) (r : Int32), CM G l yX9_setRow cX9_setRow 4 (some .int) 6 166 [.ref (gA G 0 0), .int te, .int ra] h h1 (some (.int r)) ∧ CM G l yX10_setRow cX10_setRow 5 (some .int) 2 50 [.ref (gA G 36 0), .int te, .int ra] h1 h2 (some (.int r)) ∧ LI (N + 1) h2 := by
  obtain ⟨e1, e2⟩ := setRow_eq (by omega) hC te ra
  have f := fun (g : Nat) (hg : 36 ≤ g) => fr_setRow h te ra hg
  have c1 := c_X9_setRow (l := l) hG (h := h) te ra hK
  have c2 := c_X10_setRow (l := l) hG (h := (S_X9_setRow h te ra).2) (κ := h 36) (σ := h 37) (β := h 39) te ra hM (f 36 (by decide)) (f 37 (by decide)) (f 39 (by decide)) hC.sm hC.mi
  rw [← e1] at c2
  clear e1
  generalize S_X9_setRow h te ra = Z at *
  generalize S_X10_setRow (h 36) (h 37) (h 39) te ra = Y at *
  exact ⟨_, _, _, c1, c2, LI_of e2 (fun g hg => by rw [va_up_ne _ _ (show g ≠ 39 by omega), va_up_ne _ _ (show g ≠ 37 by omega), va_up_ne _ _ (show g ≠ 36 by omega)]) rfl rfl rfl (f 40 (by decide))⟩
theorem pair_append {G : Geo} {l : Launch} {N : Nat} {h : Hp} (hG : GOK G) (hK : KT G) (hM : MT G) (hN : N ≤ 1000) (hC : CI N h (h 36) (h 37) (h 39) (h 40)) (ch : Int32) : ∃ (h1 h2 : Hp) (r : Int32), CM G l yX9_append cX9_append 2 (some .int) 2 43 [.ref (gA G 0 0), .int ch] h h1 (some (.int r)) ∧ CM G l yX10_append cX10_append 2 (some .int) 1 22 [.ref (gA G 36 0), .int ch] h1 h2 (some (.int r)) ∧ LI (N + 1) h2 := by
  obtain ⟨e1, e2⟩ := append_eq hC ch
  have f := fun (g : Nat) (hg : 36 ≤ g) => fr_append h ch hg
  have c1 := c_X9_append (l := l) hG (h := h) ch hK
  have c2 := c_X10_append (l := l) hG (h := (S_X9_append h ch).2) (κ := h 36) (τ := h 40) ch hM (f 36 (by decide)) (f 40 (by decide)) hC.len
  rw [← e1] at c2
  clear e1
  generalize S_X9_append h ch = Z at *
  generalize S_X10_append (h 36) (h 40) ch = Y at *
  exact ⟨_, _, _, c1, c2, LI_of e2 (fun g hg => by rw [va_up_ne _ _ (show g ≠ 40 by omega), va_up_ne _ _ (show g ≠ 36 by omega)]) rfl (f 37 (by decide)) (f 39 (by decide)) rfl⟩
theorem pair_clearText {G : Geo} {l : Launch} {N : Nat} {h : Hp} (hG : GOK G) (hK : KT G) (hM : MT G) (hN : N ≤ 1000) (hC : CI N h (h 36) (h 37) (h 39) (h 40)) : ∃ (h1 h2 : Hp) (r : Int32), CM G l yX9_clearText cX9_clearText 2 (some .int) 0 0 [.ref (gA G 0 0)] h h1 (some (.int r)) ∧ CM G l yX10_clearText cX10_clearText 2 (some .int) 0 0 [.ref (gA G 36 0)] h1 h2 (some (.int r)) ∧ LI (N + 1) h2 := by
  obtain ⟨e1, e2⟩ := clear_eq hC
  have f := fun (g : Nat) (hg : 36 ≤ g) => fr_clearText h hg
  have c1 := c_X9_clearText (l := l) hG (h := h) hK
  have c2 := c_X10_clearText (l := l) hG (h := (S_X9_clearText h).2) (κ := h 36) hM (f 36 (by decide))
  rw [← e1] at c2
  clear e1
  generalize S_X9_clearText h = Z at *
  generalize S_X10_clearText (h 36) = Y at *
  exact ⟨_, _, _, c1, c2, LI_of e2 (fun g hg => va_up_ne _ _ (by omega)) rfl (f 37 (by decide)) (f 39 (by decide)) (f 40 (by decide))⟩
theorem pair_load {G : Geo} {l : Launch} {N : Nat} {h : Hp} (hG : GOK G) (hK : KT G) (hM : MT G) (hN : N ≤ 1000) (hC : CI N h (h 36) (h 37) (h 39) (h 40)) : ∃ (h1 h2 : Hp) (r : Int32), CM G l yX9_load cX9_load 2 (some .int) 6 166 [.ref (gA G 0 0)] h h1 (some (.int r)) ∧ CM G l yX10_load cX10_load 3 (some .int) 4 88 [.ref (gA G 36 0)] h1 h2 (some (.int r)) ∧ LI (N + 1) h2 := by
  obtain ⟨e1, e2⟩ := load_eq (α := h 38) (ω := h 41) (by omega) hC
  have f := fun (g : Nat) (hg : 36 ≤ g) => fr_load h hg
  have c1 := c_X9_load (l := l) hG (h := h) hK
  have c2 := c_X10_load (l := l) hG (h := (S_X9_load h).2) (κ := h 36) (σ := h 37) (α := h 38) (β := h 39) (τ := h 40) (ω := h 41) hM (f 36 (by decide)) (f 37 (by decide)) (f 38 (by decide)) (f 39 (by decide)) (f 40 (by decide)) (f 41 (by decide)) hC.ti
  rw [← e1] at c2
  clear e1
  generalize S_X9_load h = Z at *
  generalize S_X10_load (h 36) (h 37) (h 38) (h 39) (h 40) (h 41) = Y at *
  exact ⟨_, _, _, c1, c2, LI_of e2 (fun g hg => by rw [va_up_ne _ _ (show g ≠ 41 by omega), va_up_ne _ _ (show g ≠ 39 by omega), va_up_ne _ _ (show g ≠ 38 by omega), va_up_ne _ _ (show g ≠ 37 by omega), va_up_ne _ _ (show g ≠ 36 by omega)]) rfl rfl rfl (f 40 (by decide))⟩
theorem pair_charge {G : Geo} {l : Launch} {N : Nat} {h : Hp} (hG : GOK G) (hK : KT G) (hM : MT G) (hN : N ≤ 1000) (hC : CI N h (h 36) (h 37) (h 39) (h 40)) (ma : Int32) : ∃ (h1 h2 : Hp) (r : Int32), CM G l yX9_charge cX9_charge 2 (some .int) 6 166 [.ref (gA G 0 0), .int ma] h h1 (some (.int r)) ∧ CM G l yX10_charge cX10_charge 3 (some .int) 1 22 [.ref (gA G 36 0), .int ma] h1 h2 (some (.int r)) ∧ LI (N + 1) h2 := by
  obtain ⟨e1, e2⟩ := charge_eq (by omega) hC ma
  have f := fun (g : Nat) (hg : 36 ≤ g) => fr_charge h ma hg
  have c1 := c_X9_charge (l := l) hG (h := h) ma hK
  have c2 := c_X10_charge (l := l) hG (h := (S_X9_charge h ma).2) (κ := h 36) (σ := h 37) (β := h 39) ma hM (f 36 (by decide)) (f 37 (by decide)) (f 39 (by decide)) hC.sm
  rw [← e1] at c2
  clear e1
  generalize S_X9_charge h ma = Z at *
  generalize S_X10_charge (h 36) (h 37) (h 39) ma = Y at *
  exact ⟨_, _, _, c1, c2, LI_of e2 (fun g hg => by rw [va_up_ne _ _ (show g ≠ 39 by omega), va_up_ne _ _ (show g ≠ 37 by omega), va_up_ne _ _ (show g ≠ 36 by omega)]) rfl rfl rfl (f 40 (by decide))⟩
theorem pair_drop {G : Geo} {l : Launch} {N : Nat} {h : Hp} (hG : GOK G) (hK : KT G) (hM : MT G) (hN : N ≤ 1000) (hC : CI N h (h 36) (h 37) (h 39) (h 40)) : ∃ (h1 h2 : Hp) (r : Int32), CM G l yX9_drop cX9_drop 1 (some .int) 6 166 [.ref (gA G 0 0)] h h1 (some (.int r)) ∧ CM G l yX10_drop cX10_drop 2 (some .int) 1 22 [.ref (gA G 36 0)] h1 h2 (some (.int r)) ∧ LI (N + 1) h2 := by
  obtain ⟨e1, e2⟩ := drop_eq (by omega) hC
  have f := fun (g : Nat) (hg : 36 ≤ g) => fr_drop h hg
  have c1 := c_X9_drop (l := l) hG (h := h) hK
  have c2 := c_X10_drop (l := l) hG (h := (S_X9_drop h).2) (κ := h 36) (σ := h 37) (β := h 39) hM (f 36 (by decide)) (f 37 (by decide)) (f 39 (by decide)) hC.sm
  rw [← e1] at c2
  clear e1
  generalize S_X9_drop h = Z at *
  generalize S_X10_drop (h 36) (h 37) (h 39) = Y at *
  exact ⟨_, _, _, c1, c2, LI_of e2 (fun g hg => by rw [va_up_ne _ _ (show g ≠ 39 by omega), va_up_ne _ _ (show g ≠ 37 by omega), va_up_ne _ _ (show g ≠ 36 by omega)]) rfl rfl rfl (f 40 (by decide))⟩
theorem pair_takeAway {G : Geo} {l : Launch} {N : Nat} {h : Hp} (hG : GOK G) (hK : KT G) (hM : MT G) (hN : N ≤ 1000) (hC : CI N h (h 36) (h 37) (h 39) (h 40)) : ∃ (h1 h2 : Hp) (r : Int32), CM G l yX9_takeAway cX9_takeAway 1 (some .int) 6 166 [.ref (gA G 0 0)] h h1 (some (.int r)) ∧ CM G l yX10_takeAway cX10_takeAway 1 (some .int) 1 21 [.ref (gA G 36 0)] h1 h2 (some (.int r)) ∧ LI (N + 1) h2 := by
  obtain ⟨e1, e2⟩ := takeAway_eq (by omega) hC
  have f := fun (g : Nat) (hg : 36 ≤ g) => fr_takeAway h hg
  have c1 := c_X9_takeAway (l := l) hG (h := h) hK
  have c2 := c_X10_takeAway (l := l) hG (h := (S_X9_takeAway h).2) (κ := h 36) (σ := h 37) (β := h 39) hM (f 36 (by decide)) (f 37 (by decide)) (f 39 (by decide)) hC.sm
  rw [← e1] at c2
  clear e1
  generalize S_X9_takeAway h = Z at *
  generalize S_X10_takeAway (h 36) (h 37) (h 39) = Y at *
  exact ⟨_, _, _, c1, c2, LI_of e2 (fun g hg => by rw [va_up_ne _ _ (show g ≠ 39 by omega), va_up_ne _ _ (show g ≠ 37 by omega), va_up_ne _ _ (show g ≠ 36 by omega)]) rfl rfl rfl (f 40 (by decide))⟩
theorem pair_run {G : Geo} {l : Launch} {N : Nat} {h : Hp} (hG : GOK G) (hK : KT G) (hM : MT G) (hN : N ≤ 1000) (hC : CI N h (h 36) (h 37) (h 39) (h 40)) (ti : Int32) : ∃ (h1 h2 : Hp) (r : Int32), CM G l yX9_run cX9_run 3 (some .int) 6 166 [.ref (gA G 0 0), .int ti] h h1 (some (.int r)) ∧ CM G l yX10_run cX10_run 3 (some .int) 4 92 [.ref (gA G 36 0), .int ti] h1 h2 (some (.int r)) ∧ LI (N + 1) h2 := by
  obtain ⟨e1, e2⟩ := run_eq (by omega) hC ti
  have f := fun (g : Nat) (hg : 36 ≤ g) => fr_run h ti hg
  have c1 := c_X9_run (l := l) hG (h := h) ti hK
  have c2 := c_X10_run (l := l) hG (h := (S_X9_run h ti).2) (κ := h 36) (σ := h 37) (β := h 39) ti hM (f 36 (by decide)) (f 37 (by decide)) (f 39 (by decide)) hC.sm hC.mi
  rw [← e1] at c2
  clear e1
  generalize S_X9_run h ti = Z at *
  generalize S_X10_run (h 36) (h 37) (h 39) ti = Y at *
  exact ⟨_, _, _, c1, c2, LI_of e2 (fun g hg => by rw [va_up_ne _ _ (show g ≠ 39 by omega), va_up_ne _ _ (show g ≠ 37 by omega), va_up_ne _ _ (show g ≠ 36 by omega)]) rfl rfl rfl (f 40 (by decide))⟩
theorem pair_undo {G : Geo} {l : Launch} {N : Nat} {h : Hp} (hG : GOK G) (hK : KT G) (hM : MT G) (hN : N ≤ 1000) (hC : CI N h (h 36) (h 37) (h 39) (h 40)) : ∃ (h1 h2 : Hp) (r : Int32), CM G l yX9_undo cX9_undo 1 (some .int) 6 166 [.ref (gA G 0 0)] h h1 (some (.int r)) ∧ CM G l yX10_undo cX10_undo 2 (some .int) 0 0 [.ref (gA G 36 0)] h1 h2 (some (.int r)) ∧ LI (N + 1) h2 := by
  obtain ⟨e1, e2⟩ := undo_CI (by omega) hC
  have f := fun (g : Nat) (hg : 36 ≤ g) => fr_undo h hg
  have c1 := c_X9_undo (l := l) hG (h := h) hK
  have c2 := c_X10_undo (l := l) hG (h := (S_X9_undo h).2) (κ := h 36) (σ := h 37) (β := h 39) hM (f 36 (by decide)) (f 37 (by decide)) (f 39 (by decide)) hC.sm
  rw [← e1] at c2
  clear e1
  generalize S_X9_undo h = Z at *
  generalize S_X10_undo (h 36) (h 37) (h 39) = Y at *
  exact ⟨_, _, _, c1, c2, LI_of e2 (fun g hg => by rw [va_up_ne _ _ (show g ≠ 37 by omega), va_up_ne _ _ (show g ≠ 36 by omega)]) rfl rfl (f 39 (by decide)) (f 40 (by decide))⟩
theorem pair_count {G : Geo} {l : Launch} {N : Nat} {h : Hp} (hG : GOK G) (hK : KT G) (hM : MT G) (hN : N ≤ 1000) (hC : CI N h (h 36) (h 37) (h 39) (h 40)) (wh : Int32) : ∃ (h1 h2 : Hp) (r : Int32), CM G l yX9_count cX9_count 2 (some .int) 0 0 [.ref (gA G 0 0), .int wh] h h1 (some (.int r)) ∧ CM G l yX10_count cX10_count 2 (some .int) 0 0 [.ref (gA G 36 0), .int wh] h1 h2 (some (.int r)) ∧ LI (N + 1) h2 := by
  obtain ⟨e1, e2⟩ := count_eq hC wh
  have c1 := c_X9_count (l := l) hG (h := h) wh hK
  have c2 := c_X10_count (l := l) hG (h := h) (κ := h 36) (σ := h 37) wh hM rfl rfl
  rw [← e1] at c2
  clear e1
  generalize S_X9_count h wh = Z at *
  generalize S_X10_count (h 36) (h 37) wh = Y at *
  exact ⟨_, _, _, c1, c2, LI_of e2 (fun g hg => va_up_ne _ _ (by omega)) rfl rfl rfl rfl⟩
theorem pair_batch {G : Geo} {l : Launch} {N : Nat} {h : Hp} (hG : GOK G) (hK : KT G) (hM : MT G) (hN : N ≤ 1000) (hC : CI N h (h 36) (h 37) (h 39) (h 40)) (wh : Int32) : ∃ (h1 h2 : Hp) (r : Int32), CM G l yX9_batch cX9_batch 2 (some .int) 3 64 [.ref (gA G 0 0), .int wh] h h1 (some (.int r)) ∧ CM G l yX10_batch cX10_batch 2 (some .int) 1 22 [.ref (gA G 36 0), .int wh] h1 h2 (some (.int r)) ∧ LI (N + 1) h2 := by
  obtain ⟨e1, e2⟩ := batch_eq hC wh
  have c1 := c_X9_batch (l := l) hG (h := h) wh hK
  have c2 := c_X10_batch (l := l) hG (h := h) (κ := h 36) (σ := h 37) wh hM rfl rfl
  rw [← e1] at c2
  clear e1
  generalize S_X9_batch h wh = Z at *
  generalize S_X10_batch (h 36) (h 37) wh = Y at *
  exact ⟨_, _, _, c1, c2, LI_of e2 (fun g hg => va_up_ne _ _ (by omega)) rfl rfl rfl rfl⟩
theorem pair_target {G : Geo} {l : Launch} {N : Nat} {h : Hp} (hG : GOK G) (hK : KT G) (hM : MT G) (hN : N ≤ 1000) (hC : CI N h (h 36) (h 37) (h 39) (h 40)) (ti : Int32) : ∃ (h1 h2 : Hp) (r : Int32), CM G l yX9_target cX9_target 2 (some .int) 3 73 [.ref (gA G 0 0), .int ti] h h1 (some (.int r)) ∧ CM G l yX10_target cX10_target 2 (some .int) 2 48 [.ref (gA G 36 0), .int ti] h1 h2 (some (.int r)) ∧ LI (N + 1) h2 := by
  obtain ⟨e1, e2⟩ := target_eq hC ti
  have c1 := c_X9_target (l := l) hG (h := h) ti hK
  have c2 := c_X10_target (l := l) hG (h := h) (κ := h 36) (σ := h 37) ti hM rfl rfl hC.mi
  rw [← e1] at c2
  clear e1
  generalize S_X9_target h ti = Z at *
  generalize S_X10_target (h 36) (h 37) ti = Y at *
  exact ⟨_, _, _, c1, c2, LI_of e2 (fun g hg => va_up_ne _ _ (by omega)) rfl rfl rfl rfl⟩
theorem pair_rate {G : Geo} {l : Launch} {N : Nat} {h : Hp} (hG : GOK G) (hK : KT G) (hM : MT G) (hN : N ≤ 1000) (hC : CI N h (h 36) (h 37) (h 39) (h 40)) (te : Int32) : ∃ (h1 h2 : Hp) (r : Int32), CM G l yX9_rate cX9_rate 2 (some .int) 3 66 [.ref (gA G 0 0), .int te] h h1 (some (.int r)) ∧ CM G l yX10_rate cX10_rate 2 (some .int) 2 46 [.ref (gA G 36 0), .int te] h1 h2 (some (.int r)) ∧ LI (N + 1) h2 := by
  obtain ⟨e1, e2⟩ := rate_eq hC te
  have c1 := c_X9_rate (l := l) hG (h := h) te hK
  have c2 := c_X10_rate (l := l) hG (h := h) (κ := h 36) (σ := h 37) te hM rfl rfl hC.mi
  rw [← e1] at c2
  clear e1
  generalize S_X9_rate h te = Z at *
  generalize S_X10_rate (h 36) (h 37) te = Y at *
  exact ⟨_, _, _, c1, c2, LI_of e2 (fun g hg => va_up_ne _ _ (by omega)) rfl rfl rfl rfl⟩
theorem pair_logged {G : Geo} {l : Launch} {N : Nat} {h : Hp} (hG : GOK G) (hK : KT G) (hM : MT G) (hN : N ≤ 1000) (hC : CI N h (h 36) (h 37) (h 39) (h 40)) (ix wh : Int32) : ∃ (h1 h2 : Hp) (r : Int32), CM G l yX9_logged cX9_logged 3 (some .int) 2 43 [.ref (gA G 0 0), .int ix, .int wh] h h1 (some (.int r)) ∧ CM G l yX10_logged cX10_logged 3 (some .int) 1 22 [.ref (gA G 36 0), .int ix, .int wh] h1 h2 (some (.int r)) ∧ LI (N + 1) h2 := by
  obtain ⟨e1, e2⟩ := logged_eq hC ix wh
  have c1 := c_X9_logged (l := l) hG (h := h) ix wh hK
  have c2 := c_X10_logged (l := l) hG (h := h) (κ := h 36) (σ := h 37) ix wh hM rfl rfl hC.1.2.2.2.2.1.2
  rw [← e1] at c2
  clear e1
  generalize S_X9_logged h ix wh = Z at *
  generalize S_X10_logged (h 36) (h 37) ix wh = Y at *
  exact ⟨_, _, _, c1, c2, LI_of e2 (fun g hg => va_up_ne _ _ (by omega)) rfl rfl rfl rfl⟩
theorem pair_drift {G : Geo} {l : Launch} {N : Nat} {h : Hp} (hG : GOK G) (hK : KT G) (hM : MT G) (hN : N ≤ 1000) (hC : CI N h (h 36) (h 37) (h 39) (h 40)) (wh : Int32) : ∃ (h1 h2 : Hp) (r : Int32), CM G l yX9_drift cX9_drift 2 (some .int) 3 84 [.ref (gA G 0 0), .int wh] h h1 (some (.int r)) ∧ CM G l yX10_drift cX10_drift 18 (some .int) 1 22 [.ref (gA G 36 0), .int wh] h1 h2 (some (.int r)) ∧ LI (N + 1) h2 := by
  obtain ⟨e1, e2⟩ := drift_eq (by omega) hC wh
  have c1 := c_X9_drift (l := l) hG (h := h) wh hK
  have c2 := c_X10_drift (l := l) hG (h := h) (κ := h 36) (σ := h 37) wh hM rfl rfl (hC.lgi hN)
  rw [← e1] at c2
  clear e1
  generalize S_X9_drift h wh = Z at *
  generalize S_X10_drift (h 36) (h 37) wh = Y at *
  exact ⟨_, _, _, c1, c2, LI_of e2 (fun g hg => va_up_ne _ _ (by omega)) rfl rfl rfl rfl⟩
theorem pair_ticksTo {G : Geo} {l : Launch} {N : Nat} {h : Hp} (hG : GOK G) (hK : KT G) (hM : MT G) (hN : N ≤ 1000) (hC : CI N h (h 36) (h 37) (h 39) (h 40)) (te : Int32) : ∃ (h1 h2 : Hp) (r : Int32), CM G l yX9_ticksTo cX9_ticksTo 3 (some .int) 5 123 [.ref (gA G 0 0), .int te] h h1 (some (.int r)) ∧ CM G l yX10_ticksTo cX10_ticksTo 2 (some .int) 5 116 [.ref (gA G 36 0), .int te] h1 h2 (some (.int r)) ∧ LI (N + 1) h2 := by
  obtain ⟨e1, e2⟩ := ticksTo_eq (α := h 38) hC te
  have c1 := c_X9_ticksTo (l := l) hG (h := h) te hK rfl rfl rfl rfl
  have c2 := c_X10_ticksTo (l := l) hG (h := va_up h 6 (S_X9_ticksTo (h 2) (h 3) (h 4) (h 6) te).2) (κ := h 36) (σ := h 37) (α := h 38) te hM rfl rfl rfl hC.mi
  rw [← e1] at c2
  clear e1
  generalize S_X9_ticksTo (h 2) (h 3) (h 4) (h 6) te = Z at *
  generalize S_X10_ticksTo (h 36) (h 37) (h 38) te = Y at *
  exact ⟨_, _, _, c1, c2, LI_of e2 (fun g hg => by rw [va_up_ne _ _ (show g ≠ 38 by omega), va_up_ne _ _ (show g ≠ 37 by omega), va_up_ne _ _ (show g ≠ 36 by omega)]) rfl rfl rfl rfl⟩
theorem pair_ticksToLoss {G : Geo} {l : Launch} {N : Nat} {h : Hp} (hG : GOK G) (hK : KT G) (hM : MT G) (hN : N ≤ 1000) (hC : CI N h (h 36) (h 37) (h 39) (h 40)) (lo : Int32) : ∃ (h1 h2 : Hp) (r : Int32), CM G l yX9_ticksToLoss cX9_ticksToLoss 3 (some .int) 5 123 [.ref (gA G 0 0), .int lo] h h1 (some (.int r)) ∧ CM G l yX10_ticksToLoss cX10_ticksToLoss 2 (some .int) 5 116 [.ref (gA G 36 0), .int lo] h1 h2 (some (.int r)) ∧ LI (N + 1) h2 := by
  obtain ⟨e1, e2⟩ := ticksToLoss_eq (α := h 38) hC lo
  have c1 := c_X9_ticksToLoss (l := l) hG (h := h) lo hK rfl rfl rfl rfl
  have c2 := c_X10_ticksToLoss (l := l) hG (h := va_up h 6 (S_X9_ticksToLoss (h 2) (h 3) (h 4) (h 6) lo).2) (κ := h 36) (σ := h 37) (α := h 38) lo hM rfl rfl rfl hC.mi
  rw [← e1] at c2
  clear e1
  generalize S_X9_ticksToLoss (h 2) (h 3) (h 4) (h 6) lo = Z at *
  generalize S_X10_ticksToLoss (h 36) (h 37) (h 38) lo = Y at *
  exact ⟨_, _, _, c1, c2, LI_of e2 (fun g hg => by rw [va_up_ne _ _ (show g ≠ 38 by omega), va_up_ne _ _ (show g ≠ 37 by omega), va_up_ne _ _ (show g ≠ 36 by omega)]) rfl rfl rfl rfl⟩
theorem pair_bestBias {G : Geo} {l : Launch} {N : Nat} {h : Hp} (hG : GOK G) (hK : KT G) (hM : MT G) (hN : N ≤ 1000) (hC : CI N h (h 36) (h 37) (h 39) (h 40)) (ti : Int32) : ∃ (h1 h2 : Hp) (r : Int32), CM G l yX9_bestBias cX9_bestBias 6 (some .int) 6 147 [.ref (gA G 0 0), .int ti] h h1 (some (.int r)) ∧ CM G l yX10_bestBias cX10_bestBias 6 (some .int) 5 117 [.ref (gA G 36 0), .int ti] h1 h2 (some (.int r)) ∧ LI (N + 1) h2 := by
  obtain ⟨e1, e2⟩ := bestBias_eq (α := h 38) hC ti
  have c1 := c_X9_bestBias (l := l) hG (h := h) ti hK rfl rfl rfl rfl
  have c2 := c_X10_bestBias (l := l) hG (h := va_up h 6 (S_X9_bestBias (h 2) (h 3) (h 4) (h 6) ti).2) (κ := h 36) (σ := h 37) (α := h 38) ti hM rfl rfl rfl hC.mi
  rw [← e1] at c2
  clear e1
  generalize S_X9_bestBias (h 2) (h 3) (h 4) (h 6) ti = Z at *
  generalize S_X10_bestBias (h 36) (h 37) (h 38) ti = Y at *
  exact ⟨_, _, _, c1, c2, LI_of e2 (fun g hg => by rw [va_up_ne _ _ (show g ≠ 38 by omega), va_up_ne _ _ (show g ≠ 37 by omega), va_up_ne _ _ (show g ≠ 36 by omega)]) rfl rfl rfl rfl⟩
