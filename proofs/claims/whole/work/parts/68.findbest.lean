/-! THE FINDER'S BEST, found -/
section Fb
variable {M0 M M' : am_M} {g : am_G} {F : am_FT} {rt : Nat}
theorem fset_r {md : Int × Int × Int × Int} (h : fset M0 md M) (h1 : ∀ a : Nat, 32 ≤ a → a ≤ 36 → ∀ z : Int, A M' a z = A M a z) : fset M0 md M' := by
  unfold fset Imk
  simp only [h1 32 (by omega) (by omega), h1 33 (by omega) (by omega), h1 34 (by omega) (by omega), h1 35 (by omega) (by omega), h1 36 (by omega) (by omega)]
  exact h
/-- what the finder's best comes to -/
def Fnd (M0 : am_M) (md : Int × Int × Int × Int) (by_ a b : Int) (C : Int → Int) (rt : Nat) (M M' : am_M) (L : Int) : Prop :=
  Ke [32, 37, 38, 39, 40, 41, rt, rt + 1] M M' ∧ fset M0 md M' ∧ Cok M0 md by_ a b C ∧ A M' rt 5 = L ∧ rsp M0 md by_ a b C L (fun j => A M' (rt + 1) j) ∧
  (bvl M0 md by_ a b C = FARC → A M' rt 6 = -1 ∧ A M' rt 7 = -1) ∧
  (bvl M0 md by_ a b C ≠ FARC → (0 ≤ A M' rt 6 ∧ A M' rt 6 ≤ 4000000) ∧ (0 ≤ A M' rt 7 ∧ A M' rt 7 ≤ 4000000) ∧ key by_ (A M' rt 6) (A M' rt 7) = bvl M0 md by_ a b C) ∧
  A M' rt 0 = a ∧ A M' rt 1 = b ∧ ∀ z : Int, 2 ≤ z → z < 5 → A M' rt z = A M rt z
theorem alone_r (h2 : I2 M0) (h4 : I4 M0) {by_ a b e : Int} (a0 : 0 ≤ a) (a1 : a < nD M0) (b0 : 0 ≤ b) (b1 : b < nD M0) : alone M0 by_ a b e = FARC ∨ (A M0 228 a = A M0 228 b ∧ 0 < ahd_ M0 a b e ∧ ahd_ M0 a b e ≤ 999) ∧ alone M0 by_ a b e = key by_ 0 (ahd_ M0 a b e) ∧ 0 ≤ alone M0 by_ a b e ∧ alone M0 by_ a b e < 20000000000000000 := by
  have hr := ahd_r h2 h4 (e := e) a0 a1 b0 b1
  unfold alone
  split
  · rename_i h
    have := key_b (b := by_) (t := 0) (m := ahd_ M0 a b e) (by omega) (by omega) (by omega) (by omega)
    right; exact ⟨⟨h.1, h.2, hr.2⟩, rfl, by omega, by omega⟩
  · exact Or.inl rfl
theorem thru_r (h1 : I1 M0) (h2 : I2 M0) (h4 : I4 M0) {md : Int × Int × Int × Int} {by_ a b e : Int} {C : Int → Int} (a0 : 0 ≤ a) (a1 : a < nD M0) (b0 : 0 ≤ b) (b1 : b < nD M0) (hC : Cok M0 md by_ a b C) (e0 : 0 ≤ e) (e1 : e < 2 * nW M0) : thru M0 by_ a b C e = FARC ∧ C e = FARC ∨ C e ≠ FARC ∧ 0 ≤ thru M0 by_ a b C e ∧ thru M0 by_ a b C e < 20000000000000000 := by
  have hn := h2.1
  have hen := en_r h2 (e := e) e0 e1
  have hst := strg_r h1 h2 h4 a0 a1 b0 b1 hen.1 hen.2
  have hfd := fdr_r h2 h4 (b := a) (f := e) a0 a1
  have kr := key_r (by_ := by_) (t := offs M0 a b e) (n := fdr M0 a e) hst.1 hst.2 (by omega) (by omega)
  have hb := hC.2 e e0 e1
  have hc := hC.1.1 e e0 (by omega)
  unfold thru
  split
  · rename_i h; exact Or.inl ⟨rfl, h⟩
  · rename_i h
    have := hb h
    have := hc.resolve_left h
    right; exact ⟨h, by omega, by omega⟩
theorem vst_r (h1 : I1 M0) (h2 : I2 M0) (h4 : I4 M0) {md : Int × Int × Int × Int} {by_ a b e : Int} {C : Int → Int} (a0 : 0 ≤ a) (a1 : a < nD M0) (b0 : 0 ≤ b) (b1 : b < nD M0) (hC : Cok M0 md by_ a b C) (e0 : 0 ≤ e) (e1 : e < 2 * nW M0) : vst M0 md by_ a b C e = FARC ∨ (0 ≤ vst M0 md by_ a b C e ∧ vst M0 md by_ a b C e < 20000000000000000) ∧ (alone M0 by_ a b e = vst M0 md by_ a b C e ∨ C e ≠ FARC ∧ thru M0 by_ a b C e = vst M0 md by_ a b C e) := by
  have r1 := alone_r h2 h4 (by_ := by_) (e := e) a0 a1 b0 b1
  have r2 := thru_r h1 h2 h4 a0 a1 b0 b1 hC e0 e1
  have eF : FARC = 9223372036854775807 := rfl
  unfold vst
  split
  · split
    · rcases r1 with r1 | r1
      · omega
      · right; exact ⟨r1.2.2, Or.inl rfl⟩
    · rcases r2 with r2 | r2
      · exact Or.inl r2.1
      · right; exact ⟨r2.2, Or.inr ⟨r2.1, rfl⟩⟩
  · exact Or.inl rfl
theorem c_costFrom' (hF : F = am_F T0 g) (hg : GG g) (h1 : I1 M0) (h2 : I2 M0) (h4 : I4 M0) {md : Int × Int × Int × Int} {by_ a b e : Int} {C : Int → Int} (hb01 : by_ = 0 ∨ by_ = 1) (a0 : 0 ≤ a) (a1 : a < nD M0) (b0 : 0 ≤ b) (b1 : b < nD M0) (hS : Fs M0 md by_ a b C M) (hC : Cok M0 md by_ a b C) (e0 : 0 ≤ e) (e1 : e < 2 * nW M0) (hew : e / 2 = A M0 228 a) :
    F 167 0 [.ref 32, .int (iI e), .int (iI a), .int (iI b)] [] M = some (some (.long (jI (vst M0 md by_ a b C e))), M) := by
  have hn := h2.1
  obtain ⟨hA, hs, hw, hJ⟩ := hS
  obtain ⟨p, q⟩ := c_costFrom hF hg hA h1 h2 h4 hb01 a0 a1 b0 b1 hs hw e0 e1 hew (by rw [hJ]; exact hC.1.1 e e0 (by omega)) (by rw [hJ]; exact hC.2)
  unfold vst
  by_cases h : mgo M0 md e
  · rw [if_pos (bI_t h)]
    have := p h
    rw [hJ] at this; exact this
  · rw [if_neg (by rw [bI_f h]; omega)]
    exact q h
/-- the route set out upon -/
theorem c_goes (hF : F = am_F T0 g) (hg : GG g) (hr : rok g rt) (h1 : I1 M0) (h2 : I2 M0) (h3 : I3 M0) (h4 : I4 M0) {md : Int × Int × Int × Int} {by_ a b : Int} {C : Int → Int} (hb01 : by_ = 0 ∨ by_ = 1) (u0 : 0 ≤ md.2.2.1) (u1 : md.2.2.1 < 24) (a0 : 0 ≤ a) (a1 : a < nD M0) (b0 : 0 ≤ b) (b1 : b < nD M0) (hC : Cok M0 md by_ a b C) (hS : Fs M0 md by_ a b C M) (hl : A M rt 5 = 0) (ha : A M rt 0 = a) (hb : A M rt 1 = b) {e : Int} (hew : e / 2 = A M0 228 a) (hes : e = sbl M0 md by_ a b C) (hv : bvl M0 md by_ a b C ≠ FARC) :
    ∃ (M1 M2 : am_M) (L : Int), F 172 0 [.ref 32, .ref rt, .int (iI e), .long (jI (bvl M0 md by_ a b C))] [] M = some (none, M1) ∧ F 169 0 [.ref 32, .ref rt] [] M1 = some (none, M2) ∧ Fnd M0 md by_ a b C rt M M2 L := by
  have hn := h2.1
  have hd := h4.1
  have h42 := hr.2.1
  have eF : FARC = 9223372036854775807 := rfl
  have wa := (h4.2.2 a a0 a1).1
  have e0 : 0 ≤ e := by omega
  have e1 : e < 2 * nW M0 := by omega
  have ebv : bvl M0 md by_ a b C = vst M0 md by_ a b C e := by rw [hes]; rfl
  have hvr := (vst_r h1 h2 h4 a0 a1 b0 b1 hC e0 e1).resolve_left (by rw [← ebv]; exact hv)
  rw [← ebv] at hvr
  obtain ⟨M1, q1, k1, s1, s2, s3⟩ := c_trace hF hg hr h1 h2 h3 h4 hb01 u0 u1 a0 a1 b0 b1 hC hS hl ha hb e0 e1 (v := bvl M0 md by_ a b C) (by omega) (by omega) (hvr.2.imp id fun x => x.1)
  have S1 := hS.ke hr k1
  have ha1 : A M1 rt 0 = a := by rw [s3 0 (by omega) (by omega)]; exact ha
  have hb1 : A M1 rt 1 = b := by rw [s3 1 (by omega) (by omega)]; exact hb
  have hfs : ∀ M2 : am_M, Ke [37, rt, rt + 1] M1 M2 → fset M0 md M2 := fun M2 kk => fset_r S1.2.1 fun x x0 x1 z => kk.a (by simp only [List.mem_cons, List.not_mem_nil, or_false]; omega)
  by_cases q : alone M0 by_ a b e = bvl M0 md by_ a b C
  · obtain ⟨l1, l2⟩ := s1 q
    obtain ⟨M2, p1, k2, t1, t2, t3, t4⟩ := c_measure1 hF hg hr h1 h2 h4 a0 a1 b0 b1 S1.1 l1 ha1 hb1 l2 e0 e1
    have ar := (alone_r h2 h4 (by_ := by_) (e := e) a0 a1 b0 b1).resolve_left (by rw [q]; exact hv)
    refine ⟨M1, M2, 1, q1, p1, (k1.mono (by simp)).trans (k2.mono (by simp)), hfs M2 k2, hC, by rw [t4 5 (by omega) (by omega) (by omega)]; exact l1, ⟨fun x => absurd x hv, fun _ _ => ⟨rfl, ?_⟩, fun _ x => absurd (by rw [← hes]; exact q) x⟩, fun x => absurd x hv, fun _ => ⟨by omega, by omega, ?_⟩, by rw [t4 0 (by omega) (by omega) (by omega)]; exact ha1, by rw [t4 1 (by omega) (by omega) (by omega)]; exact hb1, fun z z0 z1 => by rw [t4 z (by omega) (by omega) (by omega), s3 z (by omega) (by omega)]⟩
    · show A M2 (rt + 1) 0 = _
      rw [t3, l2, hes]
    · rw [t1, t2, ← ar.2.1]; exact q
  · obtain ⟨m, hP, hm, l1, l2⟩ := s2 q
    obtain ⟨M2, t, k, p1, k2, t1, t2, t5, t6, t7, t3, t4⟩ := c_measure2 hF hg hr h1 h2 h4 u0 u1 a0 a1 b0 b1 hC.1 S1.1 S1.2.1.2.2.1 hP hm hew l1 ha1 hb1 l2
    refine ⟨M1, M2, (m : Int) + 2, q1, p1, (k1.mono (by simp)).trans (k2.mono (by simp)), hfs M2 k2, hC, by rw [t4 5 (by omega) (by omega) (by omega)]; exact l1, ⟨fun x => absurd x hv, fun _ x => absurd (by rw [← hes] at x; exact x) q, fun _ _ => ⟨m, by rw [← hes]; exact hP, hm, rfl, fun j hj => ?_⟩⟩, fun x => absurd x hv, fun _ => ⟨by omega, by omega, ?_⟩, by rw [t4 0 (by omega) (by omega) (by omega)]; exact ha1, by rw [t4 1 (by omega) (by omega) (by omega)]; exact hb1, fun z z0 z1 => by rw [t4 z (by omega) (by omega) (by omega), s3 z (by omega) (by omega)]⟩
    · show A M2 (rt + 1) j = _
      rw [t3, l2 j hj, hes]
    · rw [t1, t2, t7]; exact (hvr.2.resolve_left q).2
theorem c_findBest (hF : F = am_F T0 g) (hg : GG g) (hr : rok g rt) (hA : Ag M0 M) (h1 : I1 M0) (h2 : I2 M0) (h3 : I3 M0) (h4 : I4 M0) {md : Int × Int × Int × Int} {by_ a b : Int} (hb01 : by_ = 0 ∨ by_ = 1) (u0 : 0 ≤ md.2.2.1) (u1 : md.2.2.1 < 24) (a0 : 0 ≤ a) (a1 : a < nD M0) (b0 : 0 ≤ b) (b1 : b < nD M0) (hs : fset M0 md M) :
    ∃ (M' : am_M) (L : Int) (C : Int → Int), F 217 0 [.ref 32, .ref rt, .int (iI a), .int (iI b), .int (iI by_)] [] M = some (some (.int (iI L)), M') ∧ Fnd M0 md by_ a b C rt M M' L := by
  have hn := h2.1
  have hd := h4.1
  have h42 := hr.2.1
  have eF : FARC = 9223372036854775807 := rfl
  have wa := (h4.2.2 a a0 a1).1
  have bg := c_rbegin (M := M) hF hg hr.1 (a := a) (b := b)
  have K1 : Ke [rt] M (W_ (W_ (W_ M rt 0 a) rt 1 b) rt 5 0) := ((Ke.refl.w (by simp)).w (by simp)).w (by simp)
  have l1 : A (W_ (W_ (W_ M rt 0 a) rt 1 b) rt 5 0) rt 5 = 0 := A_Ws (by omega) (by omega)
  have l2 : A (W_ (W_ (W_ M rt 0 a) rt 1 b) rt 5 0) rt 0 = a := by rw [A_Wo (by omega) (by omega) (by omega), A_Wo (by omega) (by omega) (by omega), A_Ws (by omega) (by omega)]
  have l3 : A (W_ (W_ (W_ M rt 0 a) rt 1 b) rt 5 0) rt 1 = b := by rw [A_Wo (by omega) (by omega) (by omega), A_Ws (by omega) (by omega)]
  have l4 : ∀ z : Int, 2 ≤ z → z < 5 → A (W_ (W_ (W_ M rt 0 a) rt 1 b) rt 5 0) rt z = A M rt z := fun z z0 z1 => by rw [A_Wo (by omega) (by omega) (by omega), A_Wo (by omega) (by omega) (by omega), A_Wo (by omega) (by omega) (by omega)]
  generalize W_ (W_ (W_ M rt 0 a) rt 1 b) rt 5 0 = M1 at *
  have A1 : Ag M0 M1 := hA.trans (K1.ag (by show (stN rt && true) = true; rw [hr.2.2.1]; rfl))
  have s1 : fset M0 md M1 := fset_r hs fun x x0 x1 z => Ke1.a K1 (by omega)
  obtain ⟨M2, q2, k2, s2, w2, bd2, B2⟩ := c_spread hF hg A1 h1 h2 h3 h4 hb01 u0 u1 a0 a1 b0 b1 s1
  have A2 : Ag M0 M2 := A1.trans (k2.ag (by decide))
  have hS : Fs M0 md by_ a b (J M2 40) M2 := ⟨A2, s2, w2, rfl⟩
  have hC : Cok M0 md by_ a b (J M2 40) := ⟨B2, fun e e0 e1 he => (bd2 e e0 e1 he).1⟩
  generalize J M2 40 = C at *
  have kr : ∀ z : Int, A M2 rt z = A M1 rt z := fun z => k2.a (by simp only [List.mem_cons, List.not_mem_nil, or_false]; omega)
  have x11 : A M2 11 a = A M0 228 a := (agA A2 (by decide)).trans (r11 h4 a0 a1)
  have c0 := c_costFrom' hF hg h1 h2 h4 hb01 a0 a1 b0 b1 hS hC (e := 2 * A M0 228 a) (by omega) (by omega) (by omega)
  have c1 := c_costFrom' hF hg h1 h2 h4 hb01 a0 a1 b0 b1 hS hC (e := 2 * A M0 228 a + 1) (by omega) (by omega) (by omega)
  have r0 := vst_r h1 h2 h4 a0 a1 b0 b1 hC (e := 2 * A M0 228 a) (by omega) (by omega)
  have r1 := vst_r h1 h2 h4 a0 a1 b0 b1 hC (e := 2 * A M0 228 a + 1) (by omega) (by omega)
  have kall : Ke [32, 37, 38, 39, 40, 41, rt, rt + 1] M M2 := (K1.mono (by simp)).trans (k2.mono (by simp))
  have fin : ∀ M' L, Fnd M0 md by_ a b C rt M2 M' L → Fnd M0 md by_ a b C rt M M' L := fun M' L h => by
    obtain ⟨f1, f2, f3, f4, f5, f6, f7, f8, f9, f10⟩ := h
    exact ⟨kall.trans f1, f2, f3, f4, f5, f6, f7, f8, f9, fun z z0 z1 => by rw [f10 z z0 z1, kr, l4 z z0 z1]⟩
  by_cases q : bvl M0 md by_ a b C = FARC
  · have q' := q
    have e0 : vst M0 md by_ a b C (2 * A M0 228 a) = 9223372036854775807 ∧ vst M0 md by_ a b C (2 * A M0 228 a + 1) = 9223372036854775807 := by
      unfold bvl sbl at q
      split at q <;> omega
    have ml := c_measure0 (M := M2) hF hg hr (by rw [kr]; exact l1)
    refine ⟨W_ (W_ M2 rt 6 (-1)) rt 7 (-1), 0, C, ?_, fin _ _ ⟨(Ke.refl.w (by simp)).w (by simp), fset_r s2 (fun x x0 x1 z => by rw [A_Wn (by omega), A_Wn (by omega)]), hC, ?_, ⟨fun _ => rfl, fun x => absurd q' x, fun x => absurd q' x⟩, fun _ => ⟨?_, ?_⟩, fun x => absurd q' x, ?_, ?_, fun z z0 z1 => ?_⟩⟩
    · have y5 : A (W_ (W_ M2 rt 6 (-1)) rt 7 (-1)) rt 5 = 0 := by rw [A_Wo (by omega) (by omega) (by omega), A_Wo (by omega) (by omega) (by omega), kr]; exact l1
      refine s_Finder_findBest hF hg hr.1 ?_
      simp (disch := (first | omega | decide | assumption)) only [ltm_s, ok_n, rd_i, rd_j, fd_i, fd_j, wr_i, wr_j, fw_i, fw_j, ci_s, cj_s, cv_s, dv_n, dw_n, rt_1, rt_b, rt_20, rt_21, okb_0, okb_1, okb_b, nar_0, nar_1, nar_b, i_0, i_1, j_0, j_1, i_lit, j_lit, i_n, iI_add, iI_sub, iI_mul, iI_neg, jI_add, jI_sub, jI_mul, jI_neg, sh_1, an_1, xo_1, di_p, dj_p, i_64A, i_64, j_32, lq_ge, lq_lt, lq_le, lq_gt, lq_eq, i_lt, i_le, i_eq, j_eq, iI_A, jI_J, iI_b, iI_v, jI_v, ↓reduceIte, ite_true, ite_false, Int.reduceEq, Int.reduceLT, Int.reduceLE, Int.reduceAdd, Int.reduceSub, Int.reduceMul, Int.reduceNeg, not_true_eq_false, not_false_eq_true, bg, q2, x11, c0, c1, e0.1, e0.2, ml, y5]
    · rw [A_Wo (by omega) (by omega) (by omega), A_Wo (by omega) (by omega) (by omega), kr]; exact l1
    · rw [A_Wo (by omega) (by omega) (by omega), A_Ws (by omega) (by omega)]
    · rw [A_Ws (by omega) (by omega)]
    · rw [A_Wo (by omega) (by omega) (by omega), A_Wo (by omega) (by omega) (by omega), kr]; exact l2
    · rw [A_Wo (by omega) (by omega) (by omega), A_Wo (by omega) (by omega) (by omega), kr]; exact l3
    · rw [A_Wo (by omega) (by omega) (by omega), A_Wo (by omega) (by omega) (by omega)]
  · have g0 := fun hes => c_goes hF hg hr h1 h2 h3 h4 hb01 u0 u1 a0 a1 b0 b1 hC hS ((kr 5).trans l1) ((kr 0).trans l2) ((kr 1).trans l3) (e := 2 * A M0 228 a) (by omega) hes q
    have g1 := fun hes => c_goes hF hg hr h1 h2 h3 h4 hb01 u0 u1 a0 a1 b0 b1 hC hS ((kr 5).trans l1) ((kr 0).trans l2) ((kr 1).trans l3) (e := 2 * A M0 228 a + 1) (by omega) hes q
    by_cases v : vst M0 md by_ a b C (2 * A M0 228 a + 1) < vst M0 md by_ a b C (2 * A M0 228 a)
    · have es : sbl M0 md by_ a b C = 2 * A M0 228 a + 1 := if_pos v
      have eb : bvl M0 md by_ a b C = vst M0 md by_ a b C (2 * A M0 228 a + 1) := by unfold bvl; rw [es]
      obtain ⟨M3, M4, L, p1, p2, p3⟩ := g1 es.symm
      rw [eb] at p1
      have n1 : ¬ vst M0 md by_ a b C (2 * A M0 228 a + 1) = 9223372036854775807 := fun x => q (by rw [eb]; exact x)
      refine ⟨M4, L, C, ?_, fin _ _ p3⟩
      have y5 := p3.2.2.2.1
      refine s_Finder_findBest hF hg hr.1 ?_
      by_cases n0 : vst M0 md by_ a b C (2 * A M0 228 a) = 9223372036854775807
      · rw [n0] at c0
        simp (disch := (first | omega | decide | assumption)) only [ltm_s, ok_n, rd_i, rd_j, fd_i, fd_j, wr_i, wr_j, fw_i, fw_j, ci_s, cj_s, cv_s, dv_n, dw_n, rt_1, rt_b, rt_20, rt_21, okb_0, okb_1, okb_b, nar_0, nar_1, nar_b, i_0, i_1, j_0, j_1, i_lit, j_lit, i_n, iI_add, iI_sub, iI_mul, iI_neg, jI_add, jI_sub, jI_mul, jI_neg, sh_1, an_1, xo_1, di_p, dj_p, i_64A, i_64, j_32, lq_ge, lq_lt, lq_le, lq_gt, lq_eq, i_lt, i_le, i_eq, j_eq, iI_A, jI_J, iI_b, iI_v, jI_v, ↓reduceIte, ite_true, ite_false, Int.reduceEq, Int.reduceLT, Int.reduceLE, Int.reduceAdd, Int.reduceSub, Int.reduceMul, Int.reduceNeg, not_true_eq_false, not_false_eq_true, bg, q2, x11, c0, c1, n1, p1, p2, y5]
      · simp (disch := (first | omega | decide | assumption)) only [ltm_s, ok_n, rd_i, rd_j, fd_i, fd_j, wr_i, wr_j, fw_i, fw_j, ci_s, cj_s, cv_s, dv_n, dw_n, rt_1, rt_b, rt_20, rt_21, okb_0, okb_1, okb_b, nar_0, nar_1, nar_b, i_0, i_1, j_0, j_1, i_lit, j_lit, i_n, iI_add, iI_sub, iI_mul, iI_neg, jI_add, jI_sub, jI_mul, jI_neg, sh_1, an_1, xo_1, di_p, dj_p, i_64A, i_64, j_32, lq_ge, lq_lt, lq_le, lq_gt, lq_eq, i_lt, i_le, i_eq, j_eq, iI_A, jI_J, iI_b, iI_v, jI_v, ↓reduceIte, ite_true, ite_false, Int.reduceEq, Int.reduceLT, Int.reduceLE, Int.reduceAdd, Int.reduceSub, Int.reduceMul, Int.reduceNeg, not_true_eq_false, not_false_eq_true, bg, q2, x11, c0, c1, n0, n1, v, p1, p2, y5]
    · have es : sbl M0 md by_ a b C = 2 * A M0 228 a := if_neg v
      have eb : bvl M0 md by_ a b C = vst M0 md by_ a b C (2 * A M0 228 a) := by unfold bvl; rw [es]
      obtain ⟨M3, M4, L, p1, p2, p3⟩ := g0 es.symm
      rw [eb] at p1
      have n0 : ¬ vst M0 md by_ a b C (2 * A M0 228 a) = 9223372036854775807 := fun x => q (by rw [eb]; exact x)
      refine ⟨M4, L, C, ?_, fin _ _ p3⟩
      have y5 := p3.2.2.2.1
      refine s_Finder_findBest hF hg hr.1 ?_
      simp (disch := (first | omega | decide | assumption)) only [ltm_s, ok_n, rd_i, rd_j, fd_i, fd_j, wr_i, wr_j, fw_i, fw_j, ci_s, cj_s, cv_s, dv_n, dw_n, rt_1, rt_b, rt_20, rt_21, okb_0, okb_1, okb_b, nar_0, nar_1, nar_b, i_0, i_1, j_0, j_1, i_lit, j_lit, i_n, iI_add, iI_sub, iI_mul, iI_neg, jI_add, jI_sub, jI_mul, jI_neg, sh_1, an_1, xo_1, di_p, dj_p, i_64A, i_64, j_32, lq_ge, lq_lt, lq_le, lq_gt, lq_eq, i_lt, i_le, i_eq, j_eq, iI_A, jI_J, iI_b, iI_v, jI_v, ↓reduceIte, ite_true, ite_false, Int.reduceEq, Int.reduceLT, Int.reduceLE, Int.reduceAdd, Int.reduceSub, Int.reduceMul, Int.reduceNeg, not_true_eq_false, not_false_eq_true, bg, q2, x11, c0, c1, n0, v, p1, p2, y5]
end Fb
