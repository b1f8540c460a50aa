/-! THE LAW, step by step -/
section Lw
variable {M : am_M} {g : am_G} {F : am_FT} {s L : Nat} {v y1 y2 y3 y4 y5 : Int32}
/-- what the script holds behind a place -/
def Rd (g : am_G) (s : Nat) (v y1 y2 y3 y4 y5 : Int32) : Prop := (∀ (M : am_M) (κ : Int32 → Option am_R), am_ia g M s (v + 1) κ = κ y1) ∧ (∀ (M : am_M) (κ : Int32 → Option am_R), am_ia g M s (v + 2) κ = κ y2) ∧ (∀ (M : am_M) (κ : Int32 → Option am_R), am_ia g M s (v + 3) κ = κ y3) ∧ (∀ (M : am_M) (κ : Int32 → Option am_R), am_ia g M s (v + 4) κ = κ y4) ∧ ∀ (M : am_M) (κ : Int32 → Option am_R), am_ia g M s (v + 5) κ = κ y5
theorem rc_0 (hg : GG g) (A : Option am_R) : am_rc g 0 11 A = A := if_pos (Or.inl (hg.1 0 _ (by decide +kernel)))
theorem rc_219 (hg : GG g) (A : Option am_R) : am_rc g 219 12 A = A := if_pos (Or.inl (hg.1 219 _ (by decide +kernel)))
theorem lgc (x : Int64) : lg_cmp x x = 0 := by
  have h := (lq_eq x x).mpr rfl
  exact Int32.toInt_inj.mp h
theorem lw_220 (hF : F = am_F T0 g) (hg : GG g) (hr : Rd g s v y1 y2 y3 y4 y5) (hI : Inv M) : ∃ M' : am_M, Inv M' ∧ ∀ R : am_R, F 275 1990 [.ref s, .ref 0, .ref 219, .int v] [] M' = some R → F 275 220 [.ref s, .ref 0, .ref 219, .int v] [] M = some R := by
  obtain ⟨i1, i2, i3, i4, i5⟩ := hr
  obtain ⟨r, M1, M2, c1, c2, hM⟩ := b_junction hF hg hI (x := y1.toInt) (y := y2.toInt) (o := y3.toInt) (Int32.le_toInt _) (Int32.toInt_lt _) (Int32.le_toInt _) (Int32.toInt_lt _) (Int32.le_toInt _) (Int32.toInt_lt _)
  simp only [iI_of, jI_of] at c1 c2
  refine ⟨M2, hM, fun R hR => e_Law_law_220 hF ?_⟩
  simp only [i1, i2, i3, rc_0 hg, rc_219 hg, c1, c2, ci_s, ite_true, ↓reduceIte]
  exact hR
theorem lw_263 (hF : F = am_F T0 g) (hg : GG g) (hr : Rd g s v y1 y2 y3 y4 y5) (hI : Inv M) : ∃ M' : am_M, Inv M' ∧ ∀ R : am_R, F 275 1990 [.ref s, .ref 0, .ref 219, .int v] [] M' = some R → F 275 263 [.ref s, .ref 0, .ref 219, .int v] [] M = some R := by
  obtain ⟨i1, i2, i3, i4, i5⟩ := hr
  obtain ⟨r, M1, M2, c1, c2, hM⟩ := b_ring hF hg hI (j := y1.toInt) (v := y2.toInt) (Int32.le_toInt _) (Int32.toInt_lt _) (Int32.le_toInt _) (Int32.toInt_lt _)
  simp only [iI_of, jI_of] at c1 c2
  refine ⟨M2, hM, fun R hR => e_Law_law_263 hF ?_⟩
  simp only [i1, i2, rc_0 hg, rc_219 hg, c1, c2, ci_s, ite_true, ↓reduceIte]
  exact hR
theorem lw_296 (hF : F = am_F T0 g) (hg : GG g) (hr : Rd g s v y1 y2 y3 y4 y5) (hI : Inv M) : ∃ M' : am_M, Inv M' ∧ ∀ R : am_R, F 275 1990 [.ref s, .ref 0, .ref 219, .int v] [] M' = some R → F 275 296 [.ref s, .ref 0, .ref 219, .int v] [] M = some R := by
  obtain ⟨i1, i2, i3, i4, i5⟩ := hr
  obtain ⟨r, M1, M2, c1, c2, hM⟩ := b_way hF hg hI (k := y1.toInt) (a := y2.toInt) (b := y3.toInt) (x := y4.toInt) (o := y5.toInt) (Int32.le_toInt _) (Int32.toInt_lt _) (Int32.le_toInt _) (Int32.toInt_lt _) (Int32.le_toInt _) (Int32.toInt_lt _) (Int32.le_toInt _) (Int32.toInt_lt _) (Int32.le_toInt _) (Int32.toInt_lt _)
  simp only [iI_of, jI_of] at c1 c2
  refine ⟨M2, hM, fun R hR => e_Law_law_296 hF ?_⟩
  simp only [i1, i2, i3, i4, i5, rc_0 hg, rc_219 hg, c1, c2, ci_s, ite_true, ↓reduceIte]
  exact hR
theorem lw_359 (hF : F = am_F T0 g) (hg : GG g) (hr : Rd g s v y1 y2 y3 y4 y5) (hI : Inv M) : ∃ M' : am_M, Inv M' ∧ ∀ R : am_R, F 275 1990 [.ref s, .ref 0, .ref 219, .int v] [] M' = some R → F 275 359 [.ref s, .ref 0, .ref 219, .int v] [] M = some R := by
  obtain ⟨i1, i2, i3, i4, i5⟩ := hr
  obtain ⟨r, M1, M2, c1, c2, hM⟩ := b_door hF hg hI (w := y1.toInt) (x := y2.toInt) (s := y3.toInt) (Int32.le_toInt _) (Int32.toInt_lt _) (Int32.le_toInt _) (Int32.toInt_lt _) (Int32.le_toInt _) (Int32.toInt_lt _)
  simp only [iI_of, jI_of] at c1 c2
  refine ⟨M2, hM, fun R hR => e_Law_law_359 hF ?_⟩
  simp only [i1, i2, i3, rc_0 hg, rc_219 hg, c1, c2, ci_s, ite_true, ↓reduceIte]
  exact hR
theorem lw_402 (hF : F = am_F T0 g) (hg : GG g) (hr : Rd g s v y1 y2 y3 y4 y5) (hI : Inv M) : ∃ M' : am_M, Inv M' ∧ ∀ R : am_R, F 275 1990 [.ref s, .ref 0, .ref 219, .int v] [] M' = some R → F 275 402 [.ref s, .ref 0, .ref 219, .int v] [] M = some R := by
  obtain ⟨i1, i2, i3, i4, i5⟩ := hr
  obtain ⟨r, c1, c2⟩ := b_about hF hg hI.2.1 (w := y1.toInt) (what := y2.toInt) (hour := y3.toInt) (Int32.le_toInt _) (Int32.toInt_lt _) (Int32.le_toInt _) (Int32.toInt_lt _) (Int32.le_toInt _) (Int32.toInt_lt _)
  simp only [iI_of, jI_of] at c1 c2
  refine ⟨M, hI, fun R hR => e_Law_law_402 hF ?_⟩
  simp only [i1, i2, i3, rc_0 hg, rc_219 hg, c1, c2, ci_s, ite_true, ↓reduceIte]
  exact hR
theorem lw_445 (hF : F = am_F T0 g) (hg : GG g) (hr : Rd g s v y1 y2 y3 y4 y5) (hI : Inv M) : ∃ M' : am_M, Inv M' ∧ ∀ R : am_R, F 275 1990 [.ref s, .ref 0, .ref 219, .int v] [] M' = some R → F 275 445 [.ref s, .ref 0, .ref 219, .int v] [] M = some R := by
  obtain ⟨i1, i2, i3, i4, i5⟩ := hr
  obtain ⟨r, M1, M2, c1, c2, hM⟩ := b_taken hF hg hI (t := y1.toInt) (s := y2.toInt) (Int32.le_toInt _) (Int32.toInt_lt _) (Int32.le_toInt _) (Int32.toInt_lt _)
  simp only [iI_of, jI_of] at c1 c2
  refine ⟨M2, hM, fun R hR => e_Law_law_445 hF ?_⟩
  simp only [i1, i2, rc_0 hg, rc_219 hg, c1, c2, ci_s, ite_true, ↓reduceIte]
  exact hR
theorem lw_478 (hF : F = am_F T0 g) (hg : GG g) (hr : Rd g s v y1 y2 y3 y4 y5) (hI : Inv M) : ∃ M' : am_M, Inv M' ∧ ∀ R : am_R, F 275 1990 [.ref s, .ref 0, .ref 219, .int v] [] M' = some R → F 275 478 [.ref s, .ref 0, .ref 219, .int v] [] M = some R := by
  obtain ⟨i1, i2, i3, i4, i5⟩ := hr
  obtain ⟨r, M1, M2, c1, c2, hM⟩ := b_name hF hg hI (w := y1.toInt) (wd := ((y2.toInt64 <<< ((32 : Int32).toInt64 &&& 63)) ||| (y3.toInt64 &&& 4294967295)).toInt) (Int32.le_toInt _) (Int32.toInt_lt _) (Int64.le_toInt _) (Int64.toInt_lt _)
  simp only [iI_of, jI_of] at c1 c2
  refine ⟨M2, hM, fun R hR => e_Law_law_478 hF ?_⟩
  simp only [i1, i2, i3, rc_0 hg, rc_219 hg, c1, c2, ci_s, ite_true, ↓reduceIte]
  exact hR
theorem lw_541 (hF : F = am_F T0 g) (hg : GG g) (hr : Rd g s v y1 y2 y3 y4 y5) (hI : Inv M) : ∃ M' : am_M, Inv M' ∧ ∀ R : am_R, F 275 1990 [.ref s, .ref 0, .ref 219, .int v] [] M' = some R → F 275 541 [.ref s, .ref 0, .ref 219, .int v] [] M = some R := by
  obtain ⟨i1, i2, i3, i4, i5⟩ := hr
  obtain ⟨r, c1, c2⟩ := b_answers hF hg hI (w := y1.toInt) (wd := ((y2.toInt64 <<< ((32 : Int32).toInt64 &&& 63)) ||| (y3.toInt64 &&& 4294967295)).toInt) (kn := y4.toInt) (Int32.le_toInt _) (Int32.toInt_lt _) (Int64.le_toInt _) (Int64.toInt_lt _) (Int32.le_toInt _) (Int32.toInt_lt _)
  simp only [iI_of, jI_of] at c1 c2
  refine ⟨M, hI, fun R hR => e_Law_law_541 hF ?_⟩
  simp only [i1, i2, i3, i4, rc_0 hg, rc_219 hg, c1, c2, ci_s, ite_true, ↓reduceIte]
  exact hR
theorem lw_614 (hF : F = am_F T0 g) (hg : GG g) (hr : Rd g s v y1 y2 y3 y4 y5) (hI : Inv M) : ∃ M' : am_M, Inv M' ∧ ∀ R : am_R, F 275 1990 [.ref s, .ref 0, .ref 219, .int v] [] M' = some R → F 275 614 [.ref s, .ref 0, .ref 219, .int v] [] M = some R := by
  obtain ⟨i1, i2, i3, i4, i5⟩ := hr
  obtain ⟨r, M1, M2, c1, c2, hM⟩ := b_shut hF hg hI (w := y1.toInt) (f := y2.toInt) (t := y3.toInt) (Int32.le_toInt _) (Int32.toInt_lt _) (Int32.le_toInt _) (Int32.toInt_lt _) (Int32.le_toInt _) (Int32.toInt_lt _)
  simp only [iI_of, jI_of] at c1 c2
  refine ⟨M2, hM, fun R hR => e_Law_law_614 hF ?_⟩
  simp only [i1, i2, i3, rc_0 hg, rc_219 hg, c1, c2, ci_s, ite_true, ↓reduceIte]
  exact hR
theorem lw_657 (hF : F = am_F T0 g) (hg : GG g) (hr : Rd g s v y1 y2 y3 y4 y5) (hI : Inv M) : ∃ M' : am_M, Inv M' ∧ ∀ R : am_R, F 275 1990 [.ref s, .ref 0, .ref 219, .int v] [] M' = some R → F 275 657 [.ref s, .ref 0, .ref 219, .int v] [] M = some R := by
  obtain ⟨i1, i2, i3, i4, i5⟩ := hr
  obtain ⟨r, c1, c2⟩ := b_wasShut hF hg hI (w := y1.toInt) (day := y2.toInt) (kn := y3.toInt) (Int32.le_toInt _) (Int32.toInt_lt _) (Int32.le_toInt _) (Int32.toInt_lt _) (Int32.le_toInt _) (Int32.toInt_lt _)
  simp only [iI_of, jI_of] at c1 c2
  refine ⟨M, hI, fun R hR => e_Law_law_657 hF ?_⟩
  simp only [i1, i2, i3, rc_0 hg, rc_219 hg, c1, c2, ci_s, ite_true, ↓reduceIte]
  exact hR
theorem lw_700 (hF : F = am_F T0 g) (hg : GG g) (hr : Rd g s v y1 y2 y3 y4 y5) (hI : Inv M) : ∃ M' : am_M, Inv M' ∧ ∀ R : am_R, F 275 1990 [.ref s, .ref 0, .ref 219, .int v] [] M' = some R → F 275 700 [.ref s, .ref 0, .ref 219, .int v] [] M = some R := by
  obtain ⟨i1, i2, i3, i4, i5⟩ := hr
  obtain ⟨r, M1, M2, c1, c2, hM⟩ := b_ban hF hg hI (e := y1.toInt) (f := y2.toInt) (h := y3.toInt) (d := y4.toInt) (Int32.le_toInt _) (Int32.toInt_lt _) (Int32.le_toInt _) (Int32.toInt_lt _) (Int32.le_toInt _) (Int32.toInt_lt _) (Int32.le_toInt _) (Int32.toInt_lt _)
  simp only [iI_of, jI_of] at c1 c2
  refine ⟨M2, hM, fun R hR => e_Law_law_700 hF ?_⟩
  simp only [i1, i2, i3, i4, rc_0 hg, rc_219 hg, c1, c2, ci_s, ite_true, ↓reduceIte]
  exact hR
theorem lw_753 (hF : F = am_F T0 g) (hg : GG g) (hr : Rd g s v y1 y2 y3 y4 y5) (hI : Inv M) : ∃ M' : am_M, Inv M' ∧ ∀ R : am_R, F 275 1990 [.ref s, .ref 0, .ref 219, .int v] [] M' = some R → F 275 753 [.ref s, .ref 0, .ref 219, .int v] [] M = some R := by
  obtain ⟨i1, i2, i3, i4, i5⟩ := hr
  obtain ⟨r, M1, M2, c1, c2, hM⟩ := b_pass hF hg hI (n := y1.toInt) (Int32.le_toInt _) (Int32.toInt_lt _)
  simp only [iI_of, jI_of] at c1 c2
  refine ⟨M2, hM, fun R hR => e_Law_law_753 hF ?_⟩
  simp only [i1, rc_0 hg, rc_219 hg, c1, c2, ci_s, ite_true, ↓reduceIte]
  exact hR
theorem lw_776 (hF : F = am_F T0 g) (hg : GG g) (hr : Rd g s v y1 y2 y3 y4 y5) (hI : Inv M) : ∃ M' : am_M, Inv M' ∧ ∀ R : am_R, F 275 1990 [.ref s, .ref 0, .ref 219, .int v] [] M' = some R → F 275 776 [.ref s, .ref 0, .ref 219, .int v] [] M = some R := by
  obtain ⟨i1, i2, i3, i4, i5⟩ := hr
  obtain ⟨r, c1, c2⟩ := b_turn hF hg hI.1 hI.2.1 hI.2.2.1 (e := y1.toInt) (f := y2.toInt) (Int32.le_toInt _) (Int32.toInt_lt _) (Int32.le_toInt _) (Int32.toInt_lt _)
  simp only [iI_of, jI_of] at c1 c2
  refine ⟨M, hI, fun R hR => e_Law_law_776 hF ?_⟩
  simp only [i1, i2, rc_0 hg, rc_219 hg, c1, c2, ci_s, ite_true, ↓reduceIte]
  exact hR
theorem lw_809 (hF : F = am_F T0 g) (hg : GG g) (hr : Rd g s v y1 y2 y3 y4 y5) (hI : Inv M) : ∃ M' : am_M, Inv M' ∧ ∀ R : am_R, F 275 1990 [.ref s, .ref 0, .ref 219, .int v] [] M' = some R → F 275 809 [.ref s, .ref 0, .ref 219, .int v] [] M = some R := by
  obtain ⟨i1, i2, i3, i4, i5⟩ := hr
  obtain ⟨r, c1, c2⟩ := b_drivable hF hg hI.2.1 hI.2.2.2.2.2.1 hI.2.2.2.2.2.2.2.1 (e := y1.toInt) (day := y2.toInt) (hour := y3.toInt) (kn := y4.toInt) (Int32.le_toInt _) (Int32.toInt_lt _) (Int32.le_toInt _) (Int32.toInt_lt _) (Int32.le_toInt _) (Int32.toInt_lt _) (Int32.le_toInt _) (Int32.toInt_lt _)
  simp only [iI_of, jI_of] at c1 c2
  refine ⟨M, hI, fun R hR => e_Law_law_809 hF ?_⟩
  simp only [i1, i2, i3, i4, rc_0 hg, rc_219 hg, c1, c2, ci_s, ite_true, ↓reduceIte]
  exact hR
theorem lw_862 (hF : F = am_F T0 g) (hg : GG g) (hr : Rd g s v y1 y2 y3 y4 y5) (hI : Inv M) : ∃ M' : am_M, Inv M' ∧ ∀ R : am_R, F 275 1990 [.ref s, .ref 0, .ref 219, .int v] [] M' = some R → F 275 862 [.ref s, .ref 0, .ref 219, .int v] [] M = some R := by
  obtain ⟨i1, i2, i3, i4, i5⟩ := hr
  obtain ⟨r, M1, M2, c1, c2, hM⟩ := b_best hF hg hI.ibs (a := y1.toInt) (b := y2.toInt) (hour := y3.toInt) (by_ := y4.toInt) (Int32.le_toInt _) (Int32.toInt_lt _) (Int32.le_toInt _) (Int32.toInt_lt _) (Int32.le_toInt _) (Int32.toInt_lt _) (Int32.le_toInt _) (Int32.toInt_lt _)
  simp only [iI_of, jI_of] at c1 c2
  refine ⟨M2, hM.inv hI, fun R hR => e_Law_law_862 hF ?_⟩
  simp only [i1, i2, i3, i4, rc_0 hg, rc_219 hg, c1, c2, ci_s, ite_true, ↓reduceIte]
  exact hR
theorem lw_915 (hF : F = am_F T0 g) (hg : GG g) (hr : Rd g s v y1 y2 y3 y4 y5) (hI : Inv M) : ∃ M' : am_M, Inv M' ∧ ∀ R : am_R, F 275 1990 [.ref s, .ref 0, .ref 219, .int v] [] M' = some R → F 275 915 [.ref s, .ref 0, .ref 219, .int v] [] M = some R := by
  obtain ⟨i1, i2, i3, i4, i5⟩ := hr
  obtain ⟨r, M1, M2, c1, c2, hM⟩ := b_bestOn hF hg hI.ibs (a := y1.toInt) (b := y2.toInt) (code := y3.toInt) (hour := y4.toInt) (by_ := y5.toInt) (Int32.le_toInt _) (Int32.toInt_lt _) (Int32.le_toInt _) (Int32.toInt_lt _) (Int32.le_toInt _) (Int32.toInt_lt _) (Int32.le_toInt _) (Int32.toInt_lt _) (Int32.le_toInt _) (Int32.toInt_lt _)
  simp only [iI_of, jI_of] at c1 c2
  refine ⟨M2, hM.inv hI, fun R hR => e_Law_law_915 hF ?_⟩
  simp only [i1, i2, i3, i4, i5, rc_0 hg, rc_219 hg, c1, c2, ci_s, ite_true, ↓reduceIte]
  exact hR
theorem lw_978 (hF : F = am_F T0 g) (hg : GG g) (hr : Rd g s v y1 y2 y3 y4 y5) (hI : Inv M) : ∃ M' : am_M, Inv M' ∧ ∀ R : am_R, F 275 1990 [.ref s, .ref 0, .ref 219, .int v] [] M' = some R → F 275 978 [.ref s, .ref 0, .ref 219, .int v] [] M = some R := by
  obtain ⟨i1, i2, i3, i4, i5⟩ := hr
  obtain ⟨r, c1, c2⟩ := b_leg hF hg hI.2.2.2.2.2.2.2.2.2.2.2.2.2.2.2.2.2.2.2.2 (v := y1.toInt) (Int32.le_toInt _) (Int32.toInt_lt _)
  simp only [iI_of, jI_of] at c1 c2
  refine ⟨M, hI, fun R hR => e_Law_law_978 hF ?_⟩
  simp only [i1, rc_0 hg, rc_219 hg, c1, c2, ci_s, ite_true, ↓reduceIte]
  exact hR
theorem lw_1001 (hF : F = am_F T0 g) (hg : GG g) (hr : Rd g s v y1 y2 y3 y4 y5) (hI : Inv M) : ∃ M' : am_M, Inv M' ∧ ∀ R : am_R, F 275 1990 [.ref s, .ref 0, .ref 219, .int v] [] M' = some R → F 275 1001 [.ref s, .ref 0, .ref 219, .int v] [] M = some R := by
  obtain ⟨i1, i2, i3, i4, i5⟩ := hr
  obtain ⟨r, c1, c2⟩ := b_cost hF hg hI.2.2.2.2.2.2.2.2.2.2.2.2.2.2.2.2.2.2.2.2 (v := y1.toInt) (Int32.le_toInt _) (Int32.toInt_lt _)
  simp only [iI_of, jI_of] at c1 c2
  refine ⟨M, hI, fun R hR => e_Law_law_1001 hF ?_⟩
  simp only [i1, rc_0 hg, rc_219 hg, c1, c2, cj_s, lgc, ite_true, ↓reduceIte]
  exact hR
theorem lw_1025 (hF : F = am_F T0 g) (hg : GG g) (hr : Rd g s v y1 y2 y3 y4 y5) (hI : Inv M) : ∃ M' : am_M, Inv M' ∧ ∀ R : am_R, F 275 1990 [.ref s, .ref 0, .ref 219, .int v] [] M' = some R → F 275 1025 [.ref s, .ref 0, .ref 219, .int v] [] M = some R := by
  obtain ⟨i1, i2, i3, i4, i5⟩ := hr
  obtain ⟨r, M1, M2, c1, c2, hM⟩ := b_prove hF hg hI (a := y1.toInt) (b := y2.toInt) (hour := y3.toInt) (Int32.le_toInt _) (Int32.toInt_lt _) (Int32.le_toInt _) (Int32.toInt_lt _) (Int32.le_toInt _) (Int32.toInt_lt _)
  simp only [iI_of, jI_of] at c1 c2
  refine ⟨M2, hM, fun R hR => e_Law_law_1025 hF ?_⟩
  simp only [i1, i2, i3, rc_0 hg, rc_219 hg, c1, c2, ci_s, ite_true, ↓reduceIte]
  exact hR
theorem lw_1068 (hF : F = am_F T0 g) (hg : GG g) (hr : Rd g s v y1 y2 y3 y4 y5) (hI : Inv M) : ∃ M' : am_M, Inv M' ∧ ∀ R : am_R, F 275 1990 [.ref s, .ref 0, .ref 219, .int v] [] M' = some R → F 275 1068 [.ref s, .ref 0, .ref 219, .int v] [] M = some R := by
  obtain ⟨i1, i2, i3, i4, i5⟩ := hr
  obtain ⟨r, M1, M2, c1, c2, hM⟩ := b_bound hF hg hI (a := y1.toInt) (b := y2.toInt) (hour := y3.toInt) (s := y4.toInt) (Int32.le_toInt _) (Int32.toInt_lt _) (Int32.le_toInt _) (Int32.toInt_lt _) (Int32.le_toInt _) (Int32.toInt_lt _) (Int32.le_toInt _) (Int32.toInt_lt _)
  simp only [iI_of, jI_of] at c1 c2
  refine ⟨M2, hM, fun R hR => e_Law_law_1068 hF ?_⟩
  simp only [i1, i2, i3, i4, rc_0 hg, rc_219 hg, c1, c2, ci_s, ite_true, ↓reduceIte]
  exact hR
theorem lw_1121 (hF : F = am_F T0 g) (hg : GG g) (hr : Rd g s v y1 y2 y3 y4 y5) (hI : Inv M) : ∃ M' : am_M, Inv M' ∧ ∀ R : am_R, F 275 1990 [.ref s, .ref 0, .ref 219, .int v] [] M' = some R → F 275 1121 [.ref s, .ref 0, .ref 219, .int v] [] M = some R := by
  obtain ⟨i1, i2, i3, i4, i5⟩ := hr
  obtain ⟨r, M1, M2, c1, c2, hM⟩ := b_feed hF hg hI (w := ((y1.toInt64 <<< ((32 : Int32).toInt64 &&& 63)) ||| (y2.toInt64 &&& 4294967295)).toInt) (n := y3.toInt) (Int64.le_toInt _) (Int64.toInt_lt _) (Int32.le_toInt _) (Int32.toInt_lt _)
  simp only [iI_of, jI_of] at c1 c2
  refine ⟨M2, hM, fun R hR => e_Law_law_1121 hF ?_⟩
  simp only [i1, i2, i3, rc_0 hg, rc_219 hg, c1, c2, ci_s, ite_true, ↓reduceIte]
  exact hR
theorem lw_1184 (hF : F = am_F T0 g) (hg : GG g) (hr : Rd g s v y1 y2 y3 y4 y5) (hI : Inv M) : ∃ M' : am_M, Inv M' ∧ ∀ R : am_R, F 275 1990 [.ref s, .ref 0, .ref 219, .int v] [] M' = some R → F 275 1184 [.ref s, .ref 0, .ref 219, .int v] [] M = some R := by
  obtain ⟨i1, i2, i3, i4, i5⟩ := hr
  obtain ⟨r, M1, M2, c1, c2, hM⟩ := b_wipe hF hg hI  
  refine ⟨M2, hM, fun R hR => e_Law_law_1184 hF ?_⟩
  simp only [rc_0 hg, rc_219 hg, c1, c2, ci_s, ite_true, ↓reduceIte]
  exact hR
theorem lw_1197 (hF : F = am_F T0 g) (hg : GG g) (hr : Rd g s v y1 y2 y3 y4 y5) (hI : Inv M) : ∃ M' : am_M, Inv M' ∧ ∀ R : am_R, F 275 1990 [.ref s, .ref 0, .ref 219, .int v] [] M' = some R → F 275 1197 [.ref s, .ref 0, .ref 219, .int v] [] M = some R := by
  obtain ⟨i1, i2, i3, i4, i5⟩ := hr
  obtain ⟨r, M1, M2, c1, c2, hM⟩ := b_say hF hg hI (a := y1.toInt) (b := y2.toInt) (hour := y3.toInt) (Int32.le_toInt _) (Int32.toInt_lt _) (Int32.le_toInt _) (Int32.toInt_lt _) (Int32.le_toInt _) (Int32.toInt_lt _)
  simp only [iI_of, jI_of] at c1 c2
  refine ⟨M2, hM, fun R hR => e_Law_law_1197 hF ?_⟩
  simp only [i1, i2, i3, rc_0 hg, rc_219 hg, c1, c2, ci_s, ite_true, ↓reduceIte]
  exact hR
theorem lw_1240 (hF : F = am_F T0 g) (hg : GG g) (hr : Rd g s v y1 y2 y3 y4 y5) (hI : Inv M) : ∃ M' : am_M, Inv M' ∧ ∀ R : am_R, F 275 1990 [.ref s, .ref 0, .ref 219, .int v] [] M' = some R → F 275 1240 [.ref s, .ref 0, .ref 219, .int v] [] M = some R := by
  obtain ⟨i1, i2, i3, i4, i5⟩ := hr
  obtain ⟨r, c1, c2⟩ := b_run hF hg hI (r := y1.toInt) (i := y2.toInt) (Int32.le_toInt _) (Int32.toInt_lt _) (Int32.le_toInt _) (Int32.toInt_lt _)
  simp only [iI_of, jI_of] at c1 c2
  refine ⟨M, hI, fun R hR => e_Law_law_1240 hF ?_⟩
  simp only [i1, i2, rc_0 hg, rc_219 hg, c1, c2, ci_s, ite_true, ↓reduceIte]
  exact hR
theorem lw_1273 (hF : F = am_F T0 g) (hg : GG g) (hr : Rd g s v y1 y2 y3 y4 y5) (hI : Inv M) : ∃ M' : am_M, Inv M' ∧ ∀ R : am_R, F 275 1990 [.ref s, .ref 0, .ref 219, .int v] [] M' = some R → F 275 1273 [.ref s, .ref 0, .ref 219, .int v] [] M = some R := by
  obtain ⟨i1, i2, i3, i4, i5⟩ := hr
  obtain ⟨r, c1, c2⟩ := b_runTold hF hg hI (r := y1.toInt) (v := y2.toInt) (Int32.le_toInt _) (Int32.toInt_lt _) (Int32.le_toInt _) (Int32.toInt_lt _)
  simp only [iI_of, jI_of] at c1 c2
  refine ⟨M, hI, fun R hR => e_Law_law_1273 hF ?_⟩
  simp only [i1, i2, rc_0 hg, rc_219 hg, c1, c2, ci_s, ite_true, ↓reduceIte]
  exact hR
theorem lw_1306 (hF : F = am_F T0 g) (hg : GG g) (hr : Rd g s v y1 y2 y3 y4 y5) (hI : Inv M) : ∃ M' : am_M, Inv M' ∧ ∀ R : am_R, F 275 1990 [.ref s, .ref 0, .ref 219, .int v] [] M' = some R → F 275 1306 [.ref s, .ref 0, .ref 219, .int v] [] M = some R := by
  obtain ⟨i1, i2, i3, i4, i5⟩ := hr
  obtain ⟨r, M1, M2, c1, c2, hM⟩ := b_pupil hF hg hI (v := y1.toInt) (Int32.le_toInt _) (Int32.toInt_lt _)
  simp only [iI_of, jI_of] at c1 c2
  refine ⟨M2, hM, fun R hR => e_Law_law_1306 hF ?_⟩
  simp only [i1, rc_0 hg, rc_219 hg, c1, c2, ci_s, ite_true, ↓reduceIte]
  exact hR
theorem lw_1329 (hF : F = am_F T0 g) (hg : GG g) (hr : Rd g s v y1 y2 y3 y4 y5) (hI : Inv M) : ∃ M' : am_M, Inv M' ∧ ∀ R : am_R, F 275 1990 [.ref s, .ref 0, .ref 219, .int v] [] M' = some R → F 275 1329 [.ref s, .ref 0, .ref 219, .int v] [] M = some R := by
  obtain ⟨i1, i2, i3, i4, i5⟩ := hr
  obtain ⟨r, M1, M2, c1, c2, hM⟩ := b_ride hF hg hI (p := y1.toInt) (r := y2.toInt) (Int32.le_toInt _) (Int32.toInt_lt _) (Int32.le_toInt _) (Int32.toInt_lt _)
  simp only [iI_of, jI_of] at c1 c2
  refine ⟨M2, hM, fun R hR => e_Law_law_1329 hF ?_⟩
  simp only [i1, i2, rc_0 hg, rc_219 hg, c1, c2, ci_s, ite_true, ↓reduceIte]
  exact hR
theorem lw_1362 (hF : F = am_F T0 g) (hg : GG g) (hr : Rd g s v y1 y2 y3 y4 y5) (hI : Inv M) : ∃ M' : am_M, Inv M' ∧ ∀ R : am_R, F 275 1990 [.ref s, .ref 0, .ref 219, .int v] [] M' = some R → F 275 1362 [.ref s, .ref 0, .ref 219, .int v] [] M = some R := by
  obtain ⟨i1, i2, i3, i4, i5⟩ := hr
  obtain ⟨r, c1, c2⟩ := b_holds hF hg hI (p := y1.toInt) (e := y2.toInt) (f := y3.toInt) (day := y4.toInt) (Int32.le_toInt _) (Int32.toInt_lt _) (Int32.le_toInt _) (Int32.toInt_lt _) (Int32.le_toInt _) (Int32.toInt_lt _) (Int32.le_toInt _) (Int32.toInt_lt _)
  simp only [iI_of, jI_of] at c1 c2
  refine ⟨M, hI, fun R hR => e_Law_law_1362 hF ?_⟩
  simp only [i1, i2, i3, i4, rc_0 hg, rc_219 hg, c1, c2, ci_s, ite_true, ↓reduceIte]
  exact hR
theorem lw_1415 (hF : F = am_F T0 g) (hg : GG g) (hr : Rd g s v y1 y2 y3 y4 y5) (hI : Inv M) : ∃ M' : am_M, Inv M' ∧ ∀ R : am_R, F 275 1990 [.ref s, .ref 0, .ref 219, .int v] [] M' = some R → F 275 1415 [.ref s, .ref 0, .ref 219, .int v] [] M = some R := by
  obtain ⟨i1, i2, i3, i4, i5⟩ := hr
  obtain ⟨r, c1, c2⟩ := b_knows hF hg hI (p := y1.toInt) (day := y2.toInt) (Int32.le_toInt _) (Int32.toInt_lt _) (Int32.le_toInt _) (Int32.toInt_lt _)
  simp only [iI_of, jI_of] at c1 c2
  refine ⟨M, hI, fun R hR => e_Law_law_1415 hF ?_⟩
  simp only [i1, i2, rc_0 hg, rc_219 hg, c1, c2, ci_s, ite_true, ↓reduceIte]
  exact hR
theorem lw_1448 (hF : F = am_F T0 g) (hg : GG g) (hr : Rd g s v y1 y2 y3 y4 y5) (hI : Inv M) : ∃ M' : am_M, Inv M' ∧ ∀ R : am_R, F 275 1990 [.ref s, .ref 0, .ref 219, .int v] [] M' = some R → F 275 1448 [.ref s, .ref 0, .ref 219, .int v] [] M = some R := by
  obtain ⟨i1, i2, i3, i4, i5⟩ := hr
  obtain ⟨r, M1, M2, c1, c2, hM⟩ := b_wouldSay hF hg hI (p := y1.toInt) (a := y2.toInt) (b := y3.toInt) (hour := y4.toInt) (Int32.le_toInt _) (Int32.toInt_lt _) (Int32.le_toInt _) (Int32.toInt_lt _) (Int32.le_toInt _) (Int32.toInt_lt _) (Int32.le_toInt _) (Int32.toInt_lt _)
  simp only [iI_of, jI_of] at c1 c2
  refine ⟨M2, hM, fun R hR => e_Law_law_1448 hF ?_⟩
  simp only [i1, i2, i3, i4, rc_0 hg, rc_219 hg, c1, c2, ci_s, ite_true, ↓reduceIte]
  exact hR
theorem lw_1501 (hF : F = am_F T0 g) (hg : GG g) (hr : Rd g s v y1 y2 y3 y4 y5) (hI : Inv M) : ∃ M' : am_M, Inv M' ∧ ∀ R : am_R, F 275 1990 [.ref s, .ref 0, .ref 219, .int v] [] M' = some R → F 275 1501 [.ref s, .ref 0, .ref 219, .int v] [] M = some R := by
  obtain ⟨i1, i2, i3, i4, i5⟩ := hr
  obtain ⟨r, M1, M2, c1, c2, hM⟩ := b_plan hF hg hI (p := y1.toInt) (s := y2.toInt) (n := y3.toInt) (day := y4.toInt) (Int32.le_toInt _) (Int32.toInt_lt _) (Int32.le_toInt _) (Int32.toInt_lt _) (Int32.le_toInt _) (Int32.toInt_lt _) (Int32.le_toInt _) (Int32.toInt_lt _)
  simp only [iI_of, jI_of] at c1 c2
  refine ⟨M2, hM, fun R hR => e_Law_law_1501 hF ?_⟩
  simp only [i1, i2, i3, i4, rc_0 hg, rc_219 hg, c1, c2, ci_s, ite_true, ↓reduceIte]
  exact hR
theorem lw_1554 (hF : F = am_F T0 g) (hg : GG g) (hr : Rd g s v y1 y2 y3 y4 y5) (hI : Inv M) : ∃ M' : am_M, Inv M' ∧ ∀ R : am_R, F 275 1990 [.ref s, .ref 0, .ref 219, .int v] [] M' = some R → F 275 1554 [.ref s, .ref 0, .ref 219, .int v] [] M = some R := by
  obtain ⟨i1, i2, i3, i4, i5⟩ := hr
  obtain ⟨r, c1, c2⟩ := b_planned hF hg hI (v := y1.toInt) (Int32.le_toInt _) (Int32.toInt_lt _)
  simp only [iI_of, jI_of] at c1 c2
  refine ⟨M, hI, fun R hR => e_Law_law_1554 hF ?_⟩
  simp only [i1, rc_0 hg, rc_219 hg, c1, c2, ci_s, ite_true, ↓reduceIte]
  exact hR
theorem lw_1577 (hF : F = am_F T0 g) (hg : GG g) (hr : Rd g s v y1 y2 y3 y4 y5) (hI : Inv M) : ∃ M' : am_M, Inv M' ∧ ∀ R : am_R, F 275 1990 [.ref s, .ref 0, .ref 219, .int v] [] M' = some R → F 275 1577 [.ref s, .ref 0, .ref 219, .int v] [] M = some R := by
  obtain ⟨i1, i2, i3, i4, i5⟩ := hr
  obtain ⟨r, M1, M2, c1, c2, hM⟩ := b_parting hF hg hI (s := y1.toInt) (hour := y2.toInt) (Int32.le_toInt _) (Int32.toInt_lt _) (Int32.le_toInt _) (Int32.toInt_lt _)
  simp only [iI_of, jI_of] at c1 c2
  refine ⟨M2, hM, fun R hR => e_Law_law_1577 hF ?_⟩
  simp only [i1, i2, rc_0 hg, rc_219 hg, c1, c2, ci_s, ite_true, ↓reduceIte]
  exact hR
theorem lw_1610 (hF : F = am_F T0 g) (hg : GG g) (hr : Rd g s v y1 y2 y3 y4 y5) (hI : Inv M) : ∃ M' : am_M, Inv M' ∧ ∀ R : am_R, F 275 1990 [.ref s, .ref 0, .ref 219, .int v] [] M' = some R → F 275 1610 [.ref s, .ref 0, .ref 219, .int v] [] M = some R := by
  obtain ⟨i1, i2, i3, i4, i5⟩ := hr
  obtain ⟨r, M1, M2, c1, c2, hM⟩ := b_rule hF hg hI  
  refine ⟨M2, hM, fun R hR => e_Law_law_1610 hF ?_⟩
  simp only [rc_0 hg, rc_219 hg, c1, c2, ci_s, ite_true, ↓reduceIte]
  exact hR
theorem lw_1623 (hF : F = am_F T0 g) (hg : GG g) (hr : Rd g s v y1 y2 y3 y4 y5) (hI : Inv M) : ∃ M' : am_M, Inv M' ∧ ∀ R : am_R, F 275 1990 [.ref s, .ref 0, .ref 219, .int v] [] M' = some R → F 275 1623 [.ref s, .ref 0, .ref 219, .int v] [] M = some R := by
  obtain ⟨i1, i2, i3, i4, i5⟩ := hr
  obtain ⟨r, M1, M2, c1, c2, hM⟩ := b_ask hF hg hI (p := y1.toInt) (a := y2.toInt) (b := y3.toInt) (hour := y4.toInt) (Int32.le_toInt _) (Int32.toInt_lt _) (Int32.le_toInt _) (Int32.toInt_lt _) (Int32.le_toInt _) (Int32.toInt_lt _) (Int32.le_toInt _) (Int32.toInt_lt _)
  simp only [iI_of, jI_of] at c1 c2
  refine ⟨M2, hM, fun R hR => e_Law_law_1623 hF ?_⟩
  simp only [i1, i2, i3, i4, rc_0 hg, rc_219 hg, c1, c2, ci_s, ite_true, ↓reduceIte]
  exact hR
theorem lw_1676 (hF : F = am_F T0 g) (hg : GG g) (hr : Rd g s v y1 y2 y3 y4 y5) (hI : Inv M) : ∃ M' : am_M, Inv M' ∧ ∀ R : am_R, F 275 1990 [.ref s, .ref 0, .ref 219, .int v] [] M' = some R → F 275 1676 [.ref s, .ref 0, .ref 219, .int v] [] M = some R := by
  obtain ⟨i1, i2, i3, i4, i5⟩ := hr
  obtain ⟨r, c1, c2⟩ := b_examTold hF hg hI (k := y1.toInt) (v := y2.toInt) (Int32.le_toInt _) (Int32.toInt_lt _) (Int32.le_toInt _) (Int32.toInt_lt _)
  simp only [iI_of, jI_of] at c1 c2
  refine ⟨M, hI, fun R hR => e_Law_law_1676 hF ?_⟩
  simp only [i1, i2, rc_0 hg, rc_219 hg, c1, c2, ci_s, ite_true, ↓reduceIte]
  exact hR
theorem lw_1709 (hF : F = am_F T0 g) (hg : GG g) (hr : Rd g s v y1 y2 y3 y4 y5) (hI : Inv M) : ∃ M' : am_M, Inv M' ∧ ∀ R : am_R, F 275 1990 [.ref s, .ref 0, .ref 219, .int v] [] M' = some R → F 275 1709 [.ref s, .ref 0, .ref 219, .int v] [] M = some R := by
  obtain ⟨i1, i2, i3, i4, i5⟩ := hr
  obtain ⟨r, M1, M2, c1, c2, hM⟩ := b_appeal hF hg hI (k := y1.toInt) (Int32.le_toInt _) (Int32.toInt_lt _)
  simp only [iI_of, jI_of] at c1 c2
  refine ⟨M2, hM, fun R hR => e_Law_law_1709 hF ?_⟩
  simp only [i1, rc_0 hg, rc_219 hg, c1, c2, ci_s, ite_true, ↓reduceIte]
  exact hR
theorem lw_1732 (hF : F = am_F T0 g) (hg : GG g) (hr : Rd g s v y1 y2 y3 y4 y5) (hI : Inv M) : ∃ M' : am_M, Inv M' ∧ ∀ R : am_R, F 275 1990 [.ref s, .ref 0, .ref 219, .int v] [] M' = some R → F 275 1732 [.ref s, .ref 0, .ref 219, .int v] [] M = some R := by
  obtain ⟨i1, i2, i3, i4, i5⟩ := hr
  obtain ⟨r, c1, c2⟩ := b_count hF hg hI (v := y1.toInt) (Int32.le_toInt _) (Int32.toInt_lt _)
  simp only [iI_of, jI_of] at c1 c2
  refine ⟨M, hI, fun R hR => e_Law_law_1732 hF ?_⟩
  simp only [i1, rc_0 hg, rc_219 hg, c1, c2, ci_s, ite_true, ↓reduceIte]
  exact hR
theorem lw_1755 (hF : F = am_F T0 g) (hg : GG g) (hr : Rd g s v y1 y2 y3 y4 y5) (hI : Inv M) : ∃ M' : am_M, Inv M' ∧ ∀ R : am_R, F 275 1990 [.ref s, .ref 0, .ref 219, .int v] [] M' = some R → F 275 1755 [.ref s, .ref 0, .ref 219, .int v] [] M = some R := by
  obtain ⟨i1, i2, i3, i4, i5⟩ := hr
  obtain ⟨r, M1, M2, c1, c2, hM⟩ := b_sheet hF hg hI (s := y1.toInt) (t := y2.toInt) (n := y3.toInt) (Int32.le_toInt _) (Int32.toInt_lt _) (Int32.le_toInt _) (Int32.toInt_lt _) (Int32.le_toInt _) (Int32.toInt_lt _)
  simp only [iI_of, jI_of] at c1 c2
  refine ⟨M2, hM, fun R hR => e_Law_law_1755 hF ?_⟩
  simp only [i1, i2, i3, rc_0 hg, rc_219 hg, c1, c2, ci_s, ite_true, ↓reduceIte]
  exact hR
theorem lw_1798 (hF : F = am_F T0 g) (hg : GG g) (hr : Rd g s v y1 y2 y3 y4 y5) (hI : Inv M) : ∃ M' : am_M, Inv M' ∧ ∀ R : am_R, F 275 1990 [.ref s, .ref 0, .ref 219, .int v] [] M' = some R → F 275 1798 [.ref s, .ref 0, .ref 219, .int v] [] M = some R := by
  obtain ⟨i1, i2, i3, i4, i5⟩ := hr
  obtain ⟨r, M1, M2, c1, c2, hM⟩ := b_cell hF hg hI (s := y1.toInt) (i := y2.toInt) (v := y3.toInt) (Int32.le_toInt _) (Int32.toInt_lt _) (Int32.le_toInt _) (Int32.toInt_lt _) (Int32.le_toInt _) (Int32.toInt_lt _)
  simp only [iI_of, jI_of] at c1 c2
  refine ⟨M2, hM, fun R hR => e_Law_law_1798 hF ?_⟩
  simp only [i1, i2, i3, rc_0 hg, rc_219 hg, c1, c2, ci_s, ite_true, ↓reduceIte]
  exact hR
theorem lw_1841 (hF : F = am_F T0 g) (hg : GG g) (hr : Rd g s v y1 y2 y3 y4 y5) (hI : Inv M) : ∃ M' : am_M, Inv M' ∧ ∀ R : am_R, F 275 1990 [.ref s, .ref 0, .ref 219, .int v] [] M' = some R → F 275 1841 [.ref s, .ref 0, .ref 219, .int v] [] M = some R := by
  obtain ⟨i1, i2, i3, i4, i5⟩ := hr
  obtain ⟨r, c1, c2⟩ := b_read hF hg hI (s := y1.toInt) (i := y2.toInt) (Int32.le_toInt _) (Int32.toInt_lt _) (Int32.le_toInt _) (Int32.toInt_lt _)
  simp only [iI_of, jI_of] at c1 c2
  refine ⟨M, hI, fun R hR => e_Law_law_1841 hF ?_⟩
  simp only [i1, i2, rc_0 hg, rc_219 hg, c1, c2, ci_s, ite_true, ↓reduceIte]
  exact hR
theorem lw_1874 (hF : F = am_F T0 g) (hg : GG g) (hr : Rd g s v y1 y2 y3 y4 y5) (hI : Inv M) : ∃ M' : am_M, Inv M' ∧ ∀ R : am_R, F 275 1990 [.ref s, .ref 0, .ref 219, .int v] [] M' = some R → F 275 1874 [.ref s, .ref 0, .ref 219, .int v] [] M = some R := by
  obtain ⟨i1, i2, i3, i4, i5⟩ := hr
  obtain ⟨r, M1, M2, c1, c2, hM⟩ := b_copy hF hg hI (s := y1.toInt) (i := y2.toInt) (t := y3.toInt) (j := y4.toInt) (n := y5.toInt) (Int32.le_toInt _) (Int32.toInt_lt _) (Int32.le_toInt _) (Int32.toInt_lt _) (Int32.le_toInt _) (Int32.toInt_lt _) (Int32.le_toInt _) (Int32.toInt_lt _) (Int32.le_toInt _) (Int32.toInt_lt _)
  simp only [iI_of, jI_of] at c1 c2
  refine ⟨M2, hM, fun R hR => e_Law_law_1874 hF ?_⟩
  simp only [i1, i2, i3, i4, i5, rc_0 hg, rc_219 hg, c1, c2, ci_s, ite_true, ↓reduceIte]
  exact hR
theorem lw_1937 (hF : F = am_F T0 g) (hg : GG g) (hr : Rd g s v y1 y2 y3 y4 y5) (hI : Inv M) : ∃ M' : am_M, Inv M' ∧ ∀ R : am_R, F 275 1990 [.ref s, .ref 0, .ref 219, .int v] [] M' = some R → F 275 1937 [.ref s, .ref 0, .ref 219, .int v] [] M = some R := by
  obtain ⟨i1, i2, i3, i4, i5⟩ := hr
  obtain ⟨r, M1, M2, c1, c2, hM⟩ := b_junctions hF hg hI (s := y1.toInt) (t := y2.toInt) (f := y3.toInt) (n := y4.toInt) (Int32.le_toInt _) (Int32.toInt_lt _) (Int32.le_toInt _) (Int32.toInt_lt _) (Int32.le_toInt _) (Int32.toInt_lt _) (Int32.le_toInt _) (Int32.toInt_lt _)
  simp only [iI_of, jI_of] at c1 c2
  refine ⟨M2, hM, fun R hR => e_Law_law_1937 hF ?_⟩
  simp only [i1, i2, i3, i4, rc_0 hg, rc_219 hg, c1, c2, ci_s, ite_true, ↓reduceIte]
  exact hR
theorem lw_ite {K : am_M → Option am_R} {c : Prop} [Decidable c] {A B : Option am_R} (h1 : c → ∃ M' : am_M, Inv M' ∧ ∀ R : am_R, K M' = some R → A = some R) (h2 : ¬ c → ∃ M' : am_M, Inv M' ∧ ∀ R : am_R, K M' = some R → B = some R) : ∃ M' : am_M, Inv M' ∧ ∀ R : am_R, K M' = some R → (if c then A else B) = some R := by
  by_cases h : c
  · obtain ⟨M', a, b⟩ := h1 h
    exact ⟨M', a, fun R hR => by rw [if_pos h]; exact b R hR⟩
  · obtain ⟨M', a, b⟩ := h2 h
    exact ⟨M', a, fun R hR => by rw [if_neg h]; exact b R hR⟩
theorem lw_18 (hF : F = am_F T0 g) (hg : GG g) (hr : Rd g s v y1 y2 y3 y4 y5) (hI : Inv M) {l y0 : Int32} (hl : ∀ κ : Int32 → Option am_R, am_ln g s κ = κ l) (hlt : ¬ l - 6 < v) (h0 : ∀ (M : am_M) (κ : Int32 → Option am_R), am_ia g M s v κ = κ y0) : ∃ M' : am_M, Inv M' ∧ ∀ R : am_R, F 275 1990 [.ref s, .ref 0, .ref 219, .int v] [] M' = some R → F 275 18 [.ref s, .ref 0, .ref 219, .int v] [] M = some R := by
  suffices h : ∃ M' : am_M, Inv M' ∧ ∀ R : am_R, F 275 1990 [.ref s, .ref 0, .ref 219, .int v] [] M' = some R → _ = some R by
    obtain ⟨M', a, b⟩ := h
    refine ⟨M', a, fun R hR => e_Law_law_18 hF ?_⟩
    rw [hl, if_neg hlt, h0]
    exact b R hR
  refine lw_ite (K := fun M' => F 275 1990 [.ref s, .ref 0, .ref 219, .int v] [] M') (fun _ => lw_220 hF hg hr hI) (fun _ => ?_)
  refine lw_ite (K := fun M' => F 275 1990 [.ref s, .ref 0, .ref 219, .int v] [] M') (fun _ => lw_263 hF hg hr hI) (fun _ => ?_)
  refine lw_ite (K := fun M' => F 275 1990 [.ref s, .ref 0, .ref 219, .int v] [] M') (fun _ => lw_296 hF hg hr hI) (fun _ => ?_)
  refine lw_ite (K := fun M' => F 275 1990 [.ref s, .ref 0, .ref 219, .int v] [] M') (fun _ => lw_359 hF hg hr hI) (fun _ => ?_)
  refine lw_ite (K := fun M' => F 275 1990 [.ref s, .ref 0, .ref 219, .int v] [] M') (fun _ => lw_402 hF hg hr hI) (fun _ => ?_)
  refine lw_ite (K := fun M' => F 275 1990 [.ref s, .ref 0, .ref 219, .int v] [] M') (fun _ => lw_445 hF hg hr hI) (fun _ => ?_)
  refine lw_ite (K := fun M' => F 275 1990 [.ref s, .ref 0, .ref 219, .int v] [] M') (fun _ => lw_478 hF hg hr hI) (fun _ => ?_)
  refine lw_ite (K := fun M' => F 275 1990 [.ref s, .ref 0, .ref 219, .int v] [] M') (fun _ => lw_541 hF hg hr hI) (fun _ => ?_)
  refine lw_ite (K := fun M' => F 275 1990 [.ref s, .ref 0, .ref 219, .int v] [] M') (fun _ => lw_614 hF hg hr hI) (fun _ => ?_)
  refine lw_ite (K := fun M' => F 275 1990 [.ref s, .ref 0, .ref 219, .int v] [] M') (fun _ => lw_657 hF hg hr hI) (fun _ => ?_)
  refine lw_ite (K := fun M' => F 275 1990 [.ref s, .ref 0, .ref 219, .int v] [] M') (fun _ => lw_700 hF hg hr hI) (fun _ => ?_)
  refine lw_ite (K := fun M' => F 275 1990 [.ref s, .ref 0, .ref 219, .int v] [] M') (fun _ => lw_753 hF hg hr hI) (fun _ => ?_)
  refine lw_ite (K := fun M' => F 275 1990 [.ref s, .ref 0, .ref 219, .int v] [] M') (fun _ => lw_776 hF hg hr hI) (fun _ => ?_)
  refine lw_ite (K := fun M' => F 275 1990 [.ref s, .ref 0, .ref 219, .int v] [] M') (fun _ => lw_809 hF hg hr hI) (fun _ => ?_)
  refine lw_ite (K := fun M' => F 275 1990 [.ref s, .ref 0, .ref 219, .int v] [] M') (fun _ => lw_862 hF hg hr hI) (fun _ => ?_)
  refine lw_ite (K := fun M' => F 275 1990 [.ref s, .ref 0, .ref 219, .int v] [] M') (fun _ => lw_915 hF hg hr hI) (fun _ => ?_)
  refine lw_ite (K := fun M' => F 275 1990 [.ref s, .ref 0, .ref 219, .int v] [] M') (fun _ => lw_978 hF hg hr hI) (fun _ => ?_)
  refine lw_ite (K := fun M' => F 275 1990 [.ref s, .ref 0, .ref 219, .int v] [] M') (fun _ => lw_1001 hF hg hr hI) (fun _ => ?_)
  refine lw_ite (K := fun M' => F 275 1990 [.ref s, .ref 0, .ref 219, .int v] [] M') (fun _ => lw_1025 hF hg hr hI) (fun _ => ?_)
  refine lw_ite (K := fun M' => F 275 1990 [.ref s, .ref 0, .ref 219, .int v] [] M') (fun _ => lw_1068 hF hg hr hI) (fun _ => ?_)
  refine lw_ite (K := fun M' => F 275 1990 [.ref s, .ref 0, .ref 219, .int v] [] M') (fun _ => lw_1121 hF hg hr hI) (fun _ => ?_)
  refine lw_ite (K := fun M' => F 275 1990 [.ref s, .ref 0, .ref 219, .int v] [] M') (fun _ => lw_1184 hF hg hr hI) (fun _ => ?_)
  refine lw_ite (K := fun M' => F 275 1990 [.ref s, .ref 0, .ref 219, .int v] [] M') (fun _ => lw_1197 hF hg hr hI) (fun _ => ?_)
  refine lw_ite (K := fun M' => F 275 1990 [.ref s, .ref 0, .ref 219, .int v] [] M') (fun _ => lw_1240 hF hg hr hI) (fun _ => ?_)
  refine lw_ite (K := fun M' => F 275 1990 [.ref s, .ref 0, .ref 219, .int v] [] M') (fun _ => lw_1273 hF hg hr hI) (fun _ => ?_)
  refine lw_ite (K := fun M' => F 275 1990 [.ref s, .ref 0, .ref 219, .int v] [] M') (fun _ => lw_1306 hF hg hr hI) (fun _ => ?_)
  refine lw_ite (K := fun M' => F 275 1990 [.ref s, .ref 0, .ref 219, .int v] [] M') (fun _ => lw_1329 hF hg hr hI) (fun _ => ?_)
  refine lw_ite (K := fun M' => F 275 1990 [.ref s, .ref 0, .ref 219, .int v] [] M') (fun _ => lw_1362 hF hg hr hI) (fun _ => ?_)
  refine lw_ite (K := fun M' => F 275 1990 [.ref s, .ref 0, .ref 219, .int v] [] M') (fun _ => lw_1415 hF hg hr hI) (fun _ => ?_)
  refine lw_ite (K := fun M' => F 275 1990 [.ref s, .ref 0, .ref 219, .int v] [] M') (fun _ => lw_1448 hF hg hr hI) (fun _ => ?_)
  refine lw_ite (K := fun M' => F 275 1990 [.ref s, .ref 0, .ref 219, .int v] [] M') (fun _ => lw_1501 hF hg hr hI) (fun _ => ?_)
  refine lw_ite (K := fun M' => F 275 1990 [.ref s, .ref 0, .ref 219, .int v] [] M') (fun _ => lw_1554 hF hg hr hI) (fun _ => ?_)
  refine lw_ite (K := fun M' => F 275 1990 [.ref s, .ref 0, .ref 219, .int v] [] M') (fun _ => lw_1577 hF hg hr hI) (fun _ => ?_)
  refine lw_ite (K := fun M' => F 275 1990 [.ref s, .ref 0, .ref 219, .int v] [] M') (fun _ => lw_1610 hF hg hr hI) (fun _ => ?_)
  refine lw_ite (K := fun M' => F 275 1990 [.ref s, .ref 0, .ref 219, .int v] [] M') (fun _ => lw_1623 hF hg hr hI) (fun _ => ?_)
  refine lw_ite (K := fun M' => F 275 1990 [.ref s, .ref 0, .ref 219, .int v] [] M') (fun _ => lw_1676 hF hg hr hI) (fun _ => ?_)
  refine lw_ite (K := fun M' => F 275 1990 [.ref s, .ref 0, .ref 219, .int v] [] M') (fun _ => lw_1709 hF hg hr hI) (fun _ => ?_)
  refine lw_ite (K := fun M' => F 275 1990 [.ref s, .ref 0, .ref 219, .int v] [] M') (fun _ => lw_1732 hF hg hr hI) (fun _ => ?_)
  refine lw_ite (K := fun M' => F 275 1990 [.ref s, .ref 0, .ref 219, .int v] [] M') (fun _ => lw_1755 hF hg hr hI) (fun _ => ?_)
  refine lw_ite (K := fun M' => F 275 1990 [.ref s, .ref 0, .ref 219, .int v] [] M') (fun _ => lw_1798 hF hg hr hI) (fun _ => ?_)
  refine lw_ite (K := fun M' => F 275 1990 [.ref s, .ref 0, .ref 219, .int v] [] M') (fun _ => lw_1841 hF hg hr hI) (fun _ => ?_)
  refine lw_ite (K := fun M' => F 275 1990 [.ref s, .ref 0, .ref 219, .int v] [] M') (fun _ => lw_1874 hF hg hr hI) (fun _ => ?_)
  refine lw_ite (K := fun M' => F 275 1990 [.ref s, .ref 0, .ref 219, .int v] [] M') (fun _ => lw_1937 hF hg hr hI) (fun _ => ?_)
  exact ⟨M, hI, fun R hR => hR⟩
theorem ia_scr {β : Type} (hK : gK g s = (51, L)) {z : Int} (z0 : 0 ≤ z) (z1 : z < L) (hL : L ≤ 3072) {κ : Int32 → Option β} : am_ia g M s (iI z) κ = κ (gO g s z.toNat) := by
  have e : (iI z).toNatClampNeg = z.toNat := iI_n (by omega) (by omega)
  have h : ¬ (iI z < 0 ∨ L ≤ (iI z).toNatClampNeg) := by
    rw [e, i_lt, iI_v (by omega) (by omega)]
    have : (0 : Int32).toInt = 0 := rfl
    omega
  unfold am_ia
  rw [hK]
  show (if iI z < 0 ∨ L ≤ (iI z).toNatClampNeg then none else κ (gO g s (iI z).toNatClampNeg)) = _
  rw [if_neg h, e]
theorem ln_scr {β : Type} (hK : gK g s = (51, L)) {κ : Int32 → Option β} : am_ln g s κ = κ (iI (L : Int)) := by
  unfold am_ln
  rw [hK]
  rw [if_pos (Or.inr (Or.inl rfl))]
  rfl
theorem lw_loop (hF : F = am_F T0 g) (hg : GG g) (hK : gK g s = (51, L)) (hL : L ≤ 3072) : ∀ (n : Nat) (i : Int) (M : am_M), 0 ≤ i → i ≤ 4000 → (L : Int) - i ≤ n → Inv M → ∃ M' : am_M, F 275 18 [.ref s, .ref 0, .ref 219, .int (iI i)] [] M = some (some (.int 1), M') := by
  have l6 : (iI (L : Int) - 6 : Int32) = iI ((L : Int) - 6) := by
    rw [show (6 : Int32) = iI 6 from rfl, iI_sub]
  intro n
  induction n with
  | zero =>
    intro i M i0 i1 h hI
    refine ⟨M, e_Law_law_18 hF ?_⟩
    rw [ln_scr hK, if_pos (by rw [l6, i_lt, iI_v (by omega) (by omega), iI_v (by omega) (by omega)]; omega)]
    rfl
  | succ n ih =>
    intro i M i0 i1 h hI
    by_cases q : (L : Int) - 6 < i
    · refine ⟨M, e_Law_law_18 hF ?_⟩
      rw [ln_scr hK, if_pos (by rw [l6, i_lt, iI_v (by omega) (by omega), iI_v (by omega) (by omega)]; exact q)]
      rfl
    · have rd : ∀ (k : Int) (c : Int32), c = iI k → 0 ≤ k → k ≤ 5 → ∀ (M : am_M) (κ : Int32 → Option am_R), am_ia g M s (iI i + c) κ = κ (gO g s (i + k).toNat) := fun k c hc k0 k1 M κ => by
        rw [hc, iI_add, ia_scr hK (by omega) (by omega) hL]
      obtain ⟨M1, h1, h2⟩ := lw_18 (v := iI i) hF hg ⟨rd 1 1 rfl (by omega) (by omega), rd 2 2 rfl (by omega) (by omega), rd 3 3 rfl (by omega) (by omega), rd 4 4 rfl (by omega) (by omega), rd 5 5 rfl (by omega) (by omega)⟩ hI (fun κ => ln_scr hK) (by rw [l6, i_lt, iI_v (by omega) (by omega), iI_v (by omega) (by omega)]; exact q) (fun M κ => ia_scr hK i0 (by omega) hL)
      obtain ⟨M2, r⟩ := ih (i + 6) M1 (by omega) (by omega) (by omega) h1
      refine ⟨M2, h2 _ (e_Law_law_1990 hF ?_)⟩
      rw [show (6 : Int32) = iI 6 from rfl, iI_add]
      exact r
end Lw
