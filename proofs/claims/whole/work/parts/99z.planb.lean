/-! PLAN, asked of both -/
section Pb
variable {M0 M N M' : am_M} {g : am_G} {F : am_FT}
theorem ch_i15 (h : Ch [58, 59, 60, 218, 251, 252, 269, 270, 271, 272, 273] [(42, 7), (0, 18), (219, 89)] M N) (e : ∀ z : Int, A N 251 z = A M 251 z ∧ A N 252 z = A M 252 z) (i : I15 M) : I15 N := by
  have e1 : A N 219 41 = A M 219 41 := h.f (a := 219) (z := 41) rfl
  have e2 : A N 42 2 = A M 42 2 := h.f (a := 42) (z := 2) rfl
  have e3 : A N 0 11 = A M 0 11 := h.f (a := 0) (z := 11) rfl
  have e4 : ∀ z, A N 45 z = A M 45 z := fun z => h.a rfl
  have e5 : ∀ z, A N 250 z = A M 250 z := fun z => h.a rfl
  have e6 : ∀ z, A N 251 z = A M 251 z := fun z => (e z).1
  have e7 : ∀ z, A N 252 z = A M 252 z := fun z => (e z).2
  have er : ∀ p : Int, 0 ≤ p → p < 4 → ∀ z, A N (72 + 5 * p.toNat) z = A M (72 + 5 * p.toNat) z ∧ A N (72 + 5 * p.toNat + 1) z = A M (72 + 5 * p.toNat + 1) z ∧ A N (72 + 5 * p.toNat + 2) z = A M (72 + 5 * p.toNat + 2) z := fun p p0 p1 z => by
    have hp : p = 0 ∨ p = 1 ∨ p = 2 ∨ p = 3 := by omega
    rcases hp with rfl | rfl | rfl | rfl
    · exact ⟨h.a (a := 72) rfl, h.a (a := 73) rfl, h.a (a := 74) rfl⟩
    · exact ⟨h.a (a := 77) rfl, h.a (a := 78) rfl, h.a (a := 79) rfl⟩
    · exact ⟨h.a (a := 82) rfl, h.a (a := 83) rfl, h.a (a := 84) rfl⟩
    · exact ⟨h.a (a := 87) rfl, h.a (a := 88) rfl, h.a (a := 89) rfl⟩
  obtain ⟨i1, i2, i3, i4⟩ := i
  refine ⟨by rw [e1]; exact i1, by rw [e1, e3]; exact i2, fun p p0 p1 => ?_, fun p p0 p1 => ?_⟩
  · rw [e1] at p1
    rw [(er p p0 (by omega) 0).1, e5]; exact i3 p p0 p1
  · have c := i4 p p0 p1
    have f1 : ∀ z, A N (72 + 5 * p.toNat + 1) z = A M (72 + 5 * p.toNat + 1) z := fun z => (er p p0 p1 z).2.1
    have f2 : ∀ z, A N (72 + 5 * p.toNat + 2) z = A M (72 + 5 * p.toNat + 2) z := fun z => (er p p0 p1 z).2.2
    unfold B15
    simp only [f1, f2, e2, e4, e6, e7]
    exact c
/-- the model's beginning -/
theorem m_plan_pre (hF : F = am_F T0 g) (hg : GG g) (h8 : I8 M) (h13 : I13 M) (h15 : I15 M) {p s n day m : Int} (p0 : 0 ≤ p) (p1 : p < A M 219 41) (s0 : 0 ≤ s) (s1 : s < p2 (A M 219 37)) (hm2 : pcs s (A M 219 37).toNat = m) (m0 : 1 ≤ m) (m4 : m ≤ 4) (n0 : 1 ≤ n) (n4 : n ≤ 4) (y0 : toD M + n - 1 ≤ day) (y1 : day ≤ 2000) (c : Ch [58, 59, 60, 218] [(42, 7), (0, 18)] M N) :
    ∃ Nb : am_M, (∀ R : am_R, F 191 151 [.ref 219, .int (iI p), .int (iI n), .int (iI day), .int (iI m), .int (iI (pw m n.toNat)), .int (iI (-1)), .int (iI 0)] [] Nb = some R → F 191 0 [.ref 219, .int (iI p), .int (iI s), .int (iI n), .int (iI day)] [] N = some R) ∧ Pm M p s Nb ∧ Ch [269, 270, 271] [] N Nb := by
  have h13a := h13.1
  have hpu := h15.1
  have h8a := h8.1
  have e37 : A N 219 37 = A M 219 37 := c.f (a := 219) (z := 37) rfl
  have e41 : A N 219 41 = A M 219 41 := c.f (a := 219) (z := 41) rfl
  have pv := p2_v (c := A M 219 37) (by omega) (by omega)
  have mp := m_isPupil hF hg (M := N) (by rw [e41]; exact hpu) (v := p) (by omega) (by omega)
  rw [e41, bI_t (by omega)] at mp
  have sl1 := shl (c := A M 219 37) (by omega) (by omega)
  obtain ⟨Na, r1, r2, r3⟩ := m_runs_l hF hg (p := p) (s := s) (n := n) (day := day) (c := A M 219 37) (by omega) (by omega) (A M 219 37).toNat 0 N (by omega) e37 (fun r r0 r1 => by omega)
  obtain ⟨Nb, k1, k2, k3⟩ := m_keep hF hg (M := Na) p0 (p := p) (by omega)
  have f37 : A Na 219 37 = A M 219 37 := (r2.f (a := 219) (z := 37) rfl).trans e37
  have f14 : A Na 219 14 = toD M := (r2.f (a := 219) (z := 14) rfl).trans (c.f (a := 219) (z := 14) rfl)
  have cB : Ch [269, 270, 271] [] N Nb := (r2.mono rfl).trans (k2.mono rfl)
  refine ⟨Nb, fun R hR => ?_, ⟨(c.mono rfl).trans (cB.mono rfl), fun z => ⟨(cB.a rfl).trans (c.a rfl), (cB.a rfl).trans (c.a rfl)⟩, fun t t0 t1 => ?_, fun r r0 r1 rb rp => (k2.a (a := 271) rfl).trans (r3 r r0 r1 rb rp)⟩, cB⟩
  · have hw := m_pw_l hF hg (p := p) (n := n) (day := day) m0 m4 n4 (N := Nb) (R := R) n.toNat 0 (by omega) hR
    have hin : ∀ (X : am_M) (v l h : Int), -2147483648 ≤ v → v < 2147483648 → -2147483648 ≤ l → l < 2147483648 → -2147483648 ≤ h → h < 2147483648 → l ≤ v → v ≤ h → F 53 0 [.int (iI v), .int (iI l), .int (iI h)] [] X = some (some (.int (iI 1)), X) := fun X v l h a1 a2 a3 a4 a5 a6 a7 a8 => by
      have w := m_inn hF hg (M := X) a1 a2 a3 a4 a5 a6
      rw [bI_t ⟨a7, a8⟩] at w
      exact w
    have i1 := hin Na m 1 4 (by omega) (by omega) (by omega) (by omega) (by omega) (by omega) m0 m4
    have i2 := hin Na n 1 4 (by omega) (by omega) (by omega) (by omega) (by omega) (by omega) n0 n4
    have i3 := hin Na day (toD M + n - 1) 2000 (by omega) (by omega) (by omega) (by omega) (by omega) (by omega) y0 y1
    have u : A M 219 37 ≤ A M 219 37 := Int.le_refl _
    have u1 : ¬ s < 0 := by omega
    refine s_Model_plan hF hg ?_
    simp (config := { maxSteps := 1000000 }) (disch := (first | omega | decide | assumption)) only [ltm_s, ok_n, rd_i, rd_j, fd_i, fd_j, wr_i, wr_j, fw_i, fw_j, ci_s, cj_s, cv_s, dv_n, dw_n, rt_1, rt_b, rt_20, rt_21, okb_0, okb_1, okb_b, nar_0, nar_1, nar_b, i_0, i_1, j_0, j_1, i_lit, j_lit, i_n, iI_add, iI_sub, iI_mul, iI_neg, jI_add, jI_sub, jI_mul, jI_neg, sh_1, an_1, xo_1, di_p, dj_p, i_64A, i_64, j_32, lq_ge, lq_lt, lq_le, lq_gt, lq_eq, i_lt, i_le, i_eq, j_eq, iI_A, jI_J, iI_b, iI_v, jI_v, ↓reduceIte, ite_true, ite_false, Int.reduceEq, Int.reduceLT, Int.reduceLE, Int.reduceAdd, Int.reduceSub, Int.reduceMul, Int.reduceNeg, not_true_eq_false, not_false_eq_true, mp, u1, e37, sl1, s1]
    refine r1 R ?_
    rw [hm2]
    refine s_Model_plan_30 hF hg ?_
    simp (config := { maxSteps := 1000000 }) (disch := (first | omega | decide | assumption)) only [ltm_s, ok_n, rd_i, rd_j, fd_i, fd_j, wr_i, wr_j, fw_i, fw_j, ci_s, cj_s, cv_s, dv_n, dw_n, rt_1, rt_b, rt_20, rt_21, okb_0, okb_1, okb_b, nar_0, nar_1, nar_b, i_0, i_1, j_0, j_1, i_lit, j_lit, i_n, iI_add, iI_sub, iI_mul, iI_neg, jI_add, jI_sub, jI_mul, jI_neg, sh_1, an_1, xo_1, di_p, dj_p, i_64A, i_64, j_32, lq_ge, lq_lt, lq_le, lq_gt, lq_eq, i_lt, i_le, i_eq, j_eq, iI_A, jI_J, iI_b, iI_v, jI_v, ↓reduceIte, ite_true, ite_false, Int.reduceEq, Int.reduceLT, Int.reduceLE, Int.reduceAdd, Int.reduceSub, Int.reduceMul, Int.reduceNeg, not_true_eq_false, not_false_eq_true, f37, u, i1, i2, f14, i3, k1]
    exact hw
  · have h := k3 t t0 t1
    rw [h.1, h.2, r2.a (a := 251) rfl, r2.a (a := 252) rfl, c.a (a := 251) rfl, c.a (a := 252) rfl]
    exact ⟨rfl, rfl⟩
/-- refused: the model may have put down the set's runs -/
theorem m_plan_no (hF : F = am_F T0 g) (hg : GG g) (hI : Inv M) {p s n day : Int} (p0 : 0 ≤ p) (p1 : p < A M 219 41) (s0 : 0 ≤ s) (s1 : s < p2 (A M 219 37)) (n1 : -2147483648 ≤ n) (n2 : n < 2147483648) (y1 : -2147483648 ≤ day) (y2 : day < 2147483648) (h : (pcs s (A M 219 37).toNat < 1 ∨ 4 < pcs s (A M 219 37).toNat) ∨ (n < 1 ∨ 4 < n) ∨ (day < toD M + n - 1 ∨ 2000 < day)) :
    ∃ M2 : am_M, F 191 0 [.ref 219, .int (iI p), .int (iI s), .int (iI n), .int (iI day)] [] M = some (some (.int (iI (-2))), M2) ∧ Inv M2 := by
  obtain ⟨h1, h2, h3, h4, h5, h6, h7, h8, h9, h10, h11, h12, h13, h14, h15, h16, h17, h18, h19, hm, ht⟩ := hI
  have h13a := h13.1
  have hpu := h15.1
  have h8a := h8.1
  have pv := p2_v (c := A M 219 37) (by omega) (by omega)
  have mp := m_isPupil hF hg (M := M) hpu (v := p) (by omega) (by omega)
  rw [bI_t (by omega)] at mp
  have sl1 := shl (c := A M 219 37) (by omega) (by omega)
  obtain ⟨Na, r1, r2, r3⟩ := m_runs_l hF hg (p := p) (s := s) (n := n) (day := day) (c := A M 219 37) (by omega) (by omega) (A M 219 37).toNat 0 M (by omega) rfl (fun r r0 r1 => by omega)
  have f37 : A Na 219 37 = A M 219 37 := r2.f (a := 219) (z := 37) rfl
  have f14 : A Na 219 14 = toD M := r2.f (a := 219) (z := 14) rfl
  have pr := pcs_r (s := s) (A M 219 37).toNat
  have u : A M 219 37 ≤ A M 219 37 := Int.le_refl _
  have u1 : ¬ s < 0 := by omega
  refine ⟨Na, ?_, ⟨r2.i1 rfl h1, r2.i2 rfl h2, r2.i3 rfl h3, r2.i4 rfl h4, r2.i5 rfl h5, r2.i6 rfl h6, r2.i7 rfl h7, r2.i8 rfl h8, r2.i9 rfl h9, r2.i10 rfl h10, r2.i11 rfl h11, r2.i12 rfl h12, r2.i13 rfl h13, r2.i14 rfl h14, r2.i15 rfl h15, r2.i16 rfl h16, r2.i17 rfl h17, r2.i18 rfl h18, r2.i19 rfl h19, r2.imk rfl hm, r2.itd rfl ht⟩⟩
  refine s_Model_plan hF hg ?_
  simp (config := { maxSteps := 1000000 }) (disch := (first | omega | decide | assumption)) only [ltm_s, ok_n, rd_i, rd_j, fd_i, fd_j, wr_i, wr_j, fw_i, fw_j, ci_s, cj_s, cv_s, dv_n, dw_n, rt_1, rt_b, rt_20, rt_21, okb_0, okb_1, okb_b, nar_0, nar_1, nar_b, i_0, i_1, j_0, j_1, i_lit, j_lit, i_n, iI_add, iI_sub, iI_mul, iI_neg, jI_add, jI_sub, jI_mul, jI_neg, sh_1, an_1, xo_1, di_p, dj_p, i_64A, i_64, j_32, lq_ge, lq_lt, lq_le, lq_gt, lq_eq, i_lt, i_le, i_eq, j_eq, iI_A, jI_J, iI_b, iI_v, jI_v, ↓reduceIte, ite_true, ite_false, Int.reduceEq, Int.reduceLT, Int.reduceLE, Int.reduceAdd, Int.reduceSub, Int.reduceMul, Int.reduceNeg, not_true_eq_false, not_false_eq_true, mp, u1, sl1, s1]
  refine r1 _ ?_
  obtain ⟨m, em⟩ : ∃ m : Int, m = pcs s (A M 219 37).toNat := ⟨_, rfl⟩
  rw [← em] at pr h ⊢
  have i1 := m_inn hF hg (M := Na) (v := m) (l := 1) (h := 4) (by omega) (by omega) (by omega) (by omega) (by omega) (by omega)
  refine s_Model_plan_30 hF hg ?_
  by_cases q1 : 1 ≤ m ∧ m ≤ 4
  · rw [bI_t q1] at i1
    have i2 := m_inn hF hg (M := Na) (v := n) (l := 1) (h := 4) (by omega) (by omega) (by omega) (by omega) (by omega) (by omega)
    by_cases q2 : 1 ≤ n ∧ n ≤ 4
    · rw [bI_t q2] at i2
      have i3 := m_inn hF hg (M := Na) (v := day) (l := toD M + n - 1) (h := 2000) (by omega) (by omega) (by omega) (by omega) (by omega) (by omega)
      rw [bI_f (by omega)] at i3
      simp (config := { maxSteps := 1000000 }) (disch := (first | omega | decide | assumption)) only [ltm_s, ok_n, rd_i, rd_j, fd_i, fd_j, wr_i, wr_j, fw_i, fw_j, ci_s, cj_s, cv_s, dv_n, dw_n, rt_1, rt_b, rt_20, rt_21, okb_0, okb_1, okb_b, nar_0, nar_1, nar_b, i_0, i_1, j_0, j_1, i_lit, j_lit, i_n, iI_add, iI_sub, iI_mul, iI_neg, jI_add, jI_sub, jI_mul, jI_neg, sh_1, an_1, xo_1, di_p, dj_p, i_64A, i_64, j_32, lq_ge, lq_lt, lq_le, lq_gt, lq_eq, i_lt, i_le, i_eq, j_eq, iI_A, jI_J, iI_b, iI_v, jI_v, ↓reduceIte, ite_true, ite_false, Int.reduceEq, Int.reduceLT, Int.reduceLE, Int.reduceAdd, Int.reduceSub, Int.reduceMul, Int.reduceNeg, not_true_eq_false, not_false_eq_true, f37, u, i1, i2, f14, i3]
    · rw [bI_f q2] at i2
      simp (config := { maxSteps := 1000000 }) (disch := (first | omega | decide | assumption)) only [ltm_s, ok_n, rd_i, rd_j, fd_i, fd_j, wr_i, wr_j, fw_i, fw_j, ci_s, cj_s, cv_s, dv_n, dw_n, rt_1, rt_b, rt_20, rt_21, okb_0, okb_1, okb_b, nar_0, nar_1, nar_b, i_0, i_1, j_0, j_1, i_lit, j_lit, i_n, iI_add, iI_sub, iI_mul, iI_neg, jI_add, jI_sub, jI_mul, jI_neg, sh_1, an_1, xo_1, di_p, dj_p, i_64A, i_64, j_32, lq_ge, lq_lt, lq_le, lq_gt, lq_eq, i_lt, i_le, i_eq, j_eq, iI_A, jI_J, iI_b, iI_v, jI_v, ↓reduceIte, ite_true, ite_false, Int.reduceEq, Int.reduceLT, Int.reduceLE, Int.reduceAdd, Int.reduceSub, Int.reduceMul, Int.reduceNeg, not_true_eq_false, not_false_eq_true, f37, u, i1, i2]
  · rw [bI_f q1] at i1
    simp (config := { maxSteps := 1000000 }) (disch := (first | omega | decide | assumption)) only [ltm_s, ok_n, rd_i, rd_j, fd_i, fd_j, wr_i, wr_j, fw_i, fw_j, ci_s, cj_s, cv_s, dv_n, dw_n, rt_1, rt_b, rt_20, rt_21, okb_0, okb_1, okb_b, nar_0, nar_1, nar_b, i_0, i_1, j_0, j_1, i_lit, j_lit, i_n, iI_add, iI_sub, iI_mul, iI_neg, jI_add, jI_sub, jI_mul, jI_neg, sh_1, an_1, xo_1, di_p, dj_p, i_64A, i_64, j_32, lq_ge, lq_lt, lq_le, lq_gt, lq_eq, i_lt, i_le, i_eq, j_eq, iI_A, jI_J, iI_b, iI_v, jI_v, ↓reduceIte, ite_true, ite_false, Int.reduceEq, Int.reduceLT, Int.reduceLE, Int.reduceAdd, Int.reduceSub, Int.reduceMul, Int.reduceNeg, not_true_eq_false, not_false_eq_true, f37, u, i1]
theorem b_plan (hF : F = am_F T0 g) (hg : GG g) (hI : Inv M) {p s n day : Int} (p1 : -2147483648 ≤ p) (p2' : p < 2147483648) (s1 : -2147483648 ≤ s) (s2 : s < 2147483648) (n1 : -2147483648 ≤ n) (n2 : n < 2147483648) (y1 : -2147483648 ≤ day) (y2 : day < 2147483648) :
    ∃ (r : Int) (M1 M2 : am_M), F 244 0 [.ref 0, .int (iI p), .int (iI s), .int (iI n), .int (iI day)] [] M = some (some (.int (iI r)), M1) ∧ F 191 0 [.ref 219, .int (iI p), .int (iI s), .int (iI n), .int (iI day)] [] M1 = some (some (.int (iI r)), M2) ∧ Inv M2 := by
  have hI' := hI
  obtain ⟨h1, h2, h3, h4, h5, h6, h7, h8, h9, h10, h11, h12, h13, h14, h15, h16, h17, h18, h19, hm, ht⟩ := hI
  have h13a := h13.1
  have h13b := h13.2.1
  have hpu := h15.1
  have h81 := h8.1
  have h82 := h8.2
  have pv := p2_v (c := A M 219 37) (by omega) (by omega)
  have pv2 := p2_10 (c := A M 219 37) (by omega) (by omega)
  have cp := c_noPupil hF hg h15 p1 p2'
  have mp := m_isPupil hF hg hpu p1 p2'
  by_cases q1 : p < 0 ∨ A M 219 41 - 1 < p
  · rw [bI_t q1] at cp
    rw [bI_f (by omega)] at mp
    refine ⟨-1, M, M, ?_, ?_, hI'⟩
    · refine s_RunSayer_plan hF hg ?_
      simp (config := { maxSteps := 1000000 }) (disch := (first | omega | decide | assumption)) only [ltm_s, ok_n, rd_i, rd_j, fd_i, fd_j, wr_i, wr_j, fw_i, fw_j, ci_s, cj_s, cv_s, dv_n, dw_n, rt_1, rt_b, rt_20, rt_21, okb_0, okb_1, okb_b, nar_0, nar_1, nar_b, i_0, i_1, j_0, j_1, i_lit, j_lit, i_n, iI_add, iI_sub, iI_mul, iI_neg, jI_add, jI_sub, jI_mul, jI_neg, sh_1, an_1, xo_1, di_p, dj_p, i_64A, i_64, j_32, lq_ge, lq_lt, lq_le, lq_gt, lq_eq, i_lt, i_le, i_eq, j_eq, iI_A, jI_J, iI_b, iI_v, jI_v, ↓reduceIte, ite_true, ite_false, Int.reduceEq, Int.reduceLT, Int.reduceLE, Int.reduceAdd, Int.reduceSub, Int.reduceMul, Int.reduceNeg, not_true_eq_false, not_false_eq_true, cp]
    · refine s_Model_plan hF hg ?_
      simp (config := { maxSteps := 1000000 }) (disch := (first | omega | decide | assumption)) only [ltm_s, ok_n, rd_i, rd_j, fd_i, fd_j, wr_i, wr_j, fw_i, fw_j, ci_s, cj_s, cv_s, dv_n, dw_n, rt_1, rt_b, rt_20, rt_21, okb_0, okb_1, okb_b, nar_0, nar_1, nar_b, i_0, i_1, j_0, j_1, i_lit, j_lit, i_n, iI_add, iI_sub, iI_mul, iI_neg, jI_add, jI_sub, jI_mul, jI_neg, sh_1, an_1, xo_1, di_p, dj_p, i_64A, i_64, j_32, lq_ge, lq_lt, lq_le, lq_gt, lq_eq, i_lt, i_le, i_eq, j_eq, iI_A, jI_J, iI_b, iI_v, jI_v, ↓reduceIte, ite_true, ite_false, Int.reduceEq, Int.reduceLT, Int.reduceLE, Int.reduceAdd, Int.reduceSub, Int.reduceMul, Int.reduceNeg, not_true_eq_false, not_false_eq_true, mp]
  rw [bI_f q1] at cp
  rw [bI_t (by omega)] at mp
  have sl1 := shl (c := A M 219 37) (by omega) (by omega)
  have sr : (iI s >>> (iI (A M 219 37) &&& iI 31)) = iI (s / p2 (A M 219 37)) := by
    rw [← shr s1 s2 (c := A M 219 37) (by omega) (by omega), iI_of]
  have sz := shr_0 s1 s2 (c := A M 219 37) (by omega) (by omega)
  have sdr : -2147483648 ≤ s / p2 (A M 219 37) ∧ s / p2 (A M 219 37) < 2147483648 := by
    have h := shr s1 s2 (c := A M 219 37) (by omega) (by omega)
    rw [← h]
    exact ⟨Int32.le_toInt _, Int32.toInt_lt _⟩
  by_cases q2 : s / p2 (A M 219 37) = 0
  · have sr2 := sz.mp q2
    have e37 : (((A M 219 37).toNat : Nat) : Int) = A M 219 37 := Int.toNat_of_nonneg (by omega)
    have pe := (pcs_eq (s := s) (n := (A M 219 37).toNat) (by omega) (by omega) (by rw [e37]; exact sr2.2)).1
    have bc := c_bitCount hF hg (M := M) (s := s) (by omega) (by omega)
    have pr := pcs_r (s := s) 10
    have o1 := c_outside hF hg (M := M) (v := pcs s 10) (l := 1) (h := 4) (by omega) (by omega) (by omega) (by omega) (by omega) (by omega)
    by_cases q3 : pcs s 10 < 1 ∨ 4 < pcs s 10
    · rw [bI_t q3] at o1
      obtain ⟨M2, z1, z2⟩ := m_plan_no hF hg hI' (p := p) (s := s) (n := n) (day := day) (by omega) (by omega) sr2.1 sr2.2 n1 n2 y1 y2 (Or.inl (by rw [pe]; exact q3))
      refine ⟨-2, M, M2, ?_, z1, z2⟩
      refine s_RunSayer_plan hF hg ?_
      simp (config := { maxSteps := 1000000 }) (disch := (first | omega | decide | assumption)) only [ltm_s, ok_n, rd_i, rd_j, fd_i, fd_j, wr_i, wr_j, fw_i, fw_j, ci_s, cj_s, cv_s, dv_n, dw_n, rt_1, rt_b, rt_20, rt_21, okb_0, okb_1, okb_b, nar_0, nar_1, nar_b, i_0, i_1, j_0, j_1, i_lit, j_lit, i_n, iI_add, iI_sub, iI_mul, iI_neg, jI_add, jI_sub, jI_mul, jI_neg, sh_1, an_1, xo_1, di_p, dj_p, i_64A, i_64, j_32, lq_ge, lq_lt, lq_le, lq_gt, lq_eq, i_lt, i_le, i_eq, j_eq, iI_A, jI_J, iI_b, iI_v, jI_v, ↓reduceIte, ite_true, ite_false, Int.reduceEq, Int.reduceLT, Int.reduceLE, Int.reduceAdd, Int.reduceSub, Int.reduceMul, Int.reduceNeg, not_true_eq_false, not_false_eq_true, cp, h13b, sr, q2, bc, o1]
    rw [bI_f q3] at o1
    have o2 := c_outside hF hg (M := M) (v := n) (l := 1) (h := 4) (by omega) (by omega) (by omega) (by omega) (by omega) (by omega)
    by_cases q4 : n < 1 ∨ 4 < n
    · rw [bI_t q4] at o2
      obtain ⟨M2, z1, z2⟩ := m_plan_no hF hg hI' (p := p) (s := s) (n := n) (day := day) (by omega) (by omega) sr2.1 sr2.2 n1 n2 y1 y2 (Or.inr (Or.inl q4))
      refine ⟨-2, M, M2, ?_, z1, z2⟩
      refine s_RunSayer_plan hF hg ?_
      simp (config := { maxSteps := 1000000 }) (disch := (first | omega | decide | assumption)) only [ltm_s, ok_n, rd_i, rd_j, fd_i, fd_j, wr_i, wr_j, fw_i, fw_j, ci_s, cj_s, cv_s, dv_n, dw_n, rt_1, rt_b, rt_20, rt_21, okb_0, okb_1, okb_b, nar_0, nar_1, nar_b, i_0, i_1, j_0, j_1, i_lit, j_lit, i_n, iI_add, iI_sub, iI_mul, iI_neg, jI_add, jI_sub, jI_mul, jI_neg, sh_1, an_1, xo_1, di_p, dj_p, i_64A, i_64, j_32, lq_ge, lq_lt, lq_le, lq_gt, lq_eq, i_lt, i_le, i_eq, j_eq, iI_A, jI_J, iI_b, iI_v, jI_v, ↓reduceIte, ite_true, ite_false, Int.reduceEq, Int.reduceLT, Int.reduceLE, Int.reduceAdd, Int.reduceSub, Int.reduceMul, Int.reduceNeg, not_true_eq_false, not_false_eq_true, cp, h13b, sr, q2, bc, o1, o2]
    rw [bI_f q4] at o2
    have o3 := c_outside hF hg (M := M) (v := day) (l := toD M + n - 1) (h := 2000) (by omega) (by omega) (by omega) (by omega) (by omega) (by omega)
    by_cases q5 : day < toD M + n - 1 ∨ 2000 < day
    · rw [bI_t q5] at o3
      obtain ⟨M2, z1, z2⟩ := m_plan_no hF hg hI' (p := p) (s := s) (n := n) (day := day) (by omega) (by omega) sr2.1 sr2.2 n1 n2 y1 y2 (Or.inr (Or.inr q5))
      refine ⟨-2, M, M2, ?_, z1, z2⟩
      refine s_RunSayer_plan hF hg ?_
      simp (config := { maxSteps := 1000000 }) (disch := (first | omega | decide | assumption)) only [ltm_s, ok_n, rd_i, rd_j, fd_i, fd_j, wr_i, wr_j, fw_i, fw_j, ci_s, cj_s, cv_s, dv_n, dw_n, rt_1, rt_b, rt_20, rt_21, okb_0, okb_1, okb_b, nar_0, nar_1, nar_b, i_0, i_1, j_0, j_1, i_lit, j_lit, i_n, iI_add, iI_sub, iI_mul, iI_neg, jI_add, jI_sub, jI_mul, jI_neg, sh_1, an_1, xo_1, di_p, dj_p, i_64A, i_64, j_32, lq_ge, lq_lt, lq_le, lq_gt, lq_eq, i_lt, i_le, i_eq, j_eq, iI_A, jI_J, iI_b, iI_v, jI_v, ↓reduceIte, ite_true, ite_false, Int.reduceEq, Int.reduceLT, Int.reduceLE, Int.reduceAdd, Int.reduceSub, Int.reduceMul, Int.reduceNeg, not_true_eq_false, not_false_eq_true, cp, h13b, sr, q2, bc, o1, o2, h82, o3]
    rw [bI_f q5] at o3
    obtain ⟨N1, g1, g2, g3, g4, g5⟩ := c_gather hF hg h14 (s := s) sr2.1 sr2.2 h13a.1 (by omega)
    obtain ⟨N2, e2⟩ : ∃ y : am_M, y = W_ N1 0 18 n := ⟨_, rfl⟩
    have cN : Ch [58, 59, 60, 218] [(42, 7), (0, 18)] M N2 := by
      rw [e2]; exact (g2.mono rfl).wm (Or.inr (by decide))
    have k58 : ∀ z, A N2 58 z = A N1 58 z := fun z => by rw [e2, A_Wn (by decide)]
    have k59 : ∀ z, A N2 59 z = A N1 59 z := fun z => by rw [e2, A_Wn (by decide)]
    have k42 : A N2 42 7 = A N1 42 7 := by rw [e2, A_Wn (by decide)]
    have k18 : A N2 18 0 = toD M := (cN.f (a := 18) (z := 0) rfl).trans h82
    have k018 : A N2 0 18 = n := by rw [e2, A_Ws (by omega) (by omega)]
    have hPc : Pc M s (pcs s 10) N2 := ⟨cN, k42.trans g3, fun r r0 r1 rb => (k58 _).trans (g4 r r0 r1 rb), fun l r l0 l1 r0 r1 rb => by rw [k59]; exact g5 l r l0 l1 r0 r1 rb⟩
    have pwr := pw_r (m := pcs s 10) (by omega) (by omega) (n := n.toNat) (by omega)
    have m_of := fun (N : am_M) (c : Ch [58, 59, 60, 218] [(42, 7), (0, 18)] M N) => m_plan_pre hF hg h8 h13 h15 (p := p) (s := s) (n := n) (day := day) (m := pcs s 10) (by omega) (by omega) sr2.1 sr2.2 pe (by omega) (by omega) (by omega) (by omega) (by omega) (by omega) c
    have pl := pl_l hF hg h2 h8 h9 h13 h14 h15 (p := p) (s := s) (n := n) (day := day) (m := pcs s 10) (by omega) (by omega) pe (by omega) (by omega) (by omega) (by omega) (by omega) (by omega) (pw (pcs s 10) n.toNat).toNat 0 (-1)
    obtain ⟨Na, a1, a2, -⟩ := m_of M Ch.refl
    obtain ⟨r, M1, X, x1, -, x3, -⟩ := pl N2 Na (by omega) hPc a2 (Or.inl ⟨rfl, rfl⟩)
    have c1 : Ch [58, 59, 60, 218] [(42, 7), (0, 18)] M M1 := cN.trans (x3.mono rfl)
    obtain ⟨Nb, b1, b2, b3⟩ := m_of M1 c1
    obtain ⟨r', M1', M2, z1, z2, z3, z4, z5, z6, z7⟩ := pl N2 Nb (by omega) hPc b2 (Or.inl ⟨rfl, rfl⟩)
    rw [x1] at z1
    have e := Option.some.inj z1
    have ea := (Prod.mk.inj e).1
    have eb := (Prod.mk.inj e).2
    subst eb
    have c : Ch [58, 59, 60, 218, 251, 252, 269, 270, 271, 272, 273] [(42, 7), (0, 18), (219, 89)] M M2 := b2.1.trans (z4.mono rfl)
    have i9 : I9 M2 := by
      refine ⟨fun q q0 q1 => by rw [c.a (a := 250) rfl]; exact h9.1 q q0 q1, fun t t0 t1 => ?_⟩
      rw [(z5 t).1, (z5 t).2]
      exact h9.2 t t0 t1
    have b018 : A M2 0 18 = n := (z4.f (a := 0) (z := 18) rfl).trans ((b3.f (a := 0) (z := 18) rfl).trans ((x3.f (a := 0) (z := 18) rfl).trans k018))
    have i19 : I19 M2 := by
      refine ⟨by rw [z6]; omega, by rw [b018, z6], fun i i0 i1 => ?_⟩
      rw [z6] at i1
      exact (z4.a (a := 218) rfl).trans ((b3.a (a := 218) rfl).trans (z7 i i0 i1))
    refine ⟨r', M1, M2, ?_, b1 _ z2, ⟨c.i1 rfl h1, c.i2 rfl h2, c.i3 rfl h3, c.i4 rfl h4, c.i5 rfl h5, c.i6 rfl h6, c.i7 rfl h7, c.i8 rfl h8, i9, c.i10 rfl h10, c.i11 rfl h11, c.i12 rfl h12, c.i13 rfl h13, c.i14 rfl h14, ch_i15 c z5 h15, c.i16 rfl h16, c.i17 rfl h17, c.i18 rfl h18, i19, c.imk rfl hm, c.itd rfl ht⟩⟩
    rw [ea] at x1
    have hpr : F 222 0 [.ref 42, .ref (72 + 5 * p.toNat), .ref 218, .int (iI n), .int (iI (toD M)), .int (iI day)] [] N2 = some (some (.int (iI r')), M1) := by
      have ha := pu_ok hg (p := p) (by omega) (by omega)
      refine s_Links_planRides hF hg ha ?_
      exact c_pw_l hF hg ha (n := n) (first := toD M) (day := day) (m := pcs s 10) (by omega) (by omega) (by omega) hPc.2.1 n.toNat 0 (by omega) x1
    refine s_RunSayer_plan hF hg ?_
    have hnp : (iI p).toNatClampNeg = p.toNat := iI_n (by omega) (by omega)
    simp (config := { maxSteps := 1000000 }) (disch := (first | omega | decide | assumption)) only [ltm_s, ok_n, rd_i, rd_j, fd_i, fd_j, wr_i, wr_j, fw_i, fw_j, ci_s, cj_s, cv_s, dv_n, dw_n, rt_1, rt_b, rt_20, rt_21, okb_0, okb_1, okb_b, nar_0, nar_1, nar_b, i_0, i_1, j_0, j_1, i_lit, j_lit, i_n, iI_add, iI_sub, iI_mul, iI_neg, jI_add, jI_sub, jI_mul, jI_neg, sh_1, an_1, xo_1, di_p, dj_p, i_64A, i_64, j_32, lq_ge, lq_lt, lq_le, lq_gt, lq_eq, i_lt, i_le, i_eq, j_eq, iI_A, jI_J, iI_b, iI_v, jI_v, ↓reduceIte, ite_true, ite_false, Int.reduceEq, Int.reduceLT, Int.reduceLE, Int.reduceAdd, Int.reduceSub, Int.reduceMul, Int.reduceNeg, not_true_eq_false, not_false_eq_true, iI_n, rdn_i, rdn_j, wrn_i, wrn_j, cp, h13b, sr, q2, bc, o1, o2, h82, o3, g1, e2.symm, k18, hpr]
  · refine ⟨-1, M, M, ?_, ?_, hI'⟩
    · refine s_RunSayer_plan hF hg ?_
      simp (config := { maxSteps := 1000000 }) (disch := (first | omega | decide | assumption)) only [ltm_s, ok_n, rd_i, rd_j, fd_i, fd_j, wr_i, wr_j, fw_i, fw_j, ci_s, cj_s, cv_s, dv_n, dw_n, rt_1, rt_b, rt_20, rt_21, okb_0, okb_1, okb_b, nar_0, nar_1, nar_b, i_0, i_1, j_0, j_1, i_lit, j_lit, i_n, iI_add, iI_sub, iI_mul, iI_neg, jI_add, jI_sub, jI_mul, jI_neg, sh_1, an_1, xo_1, di_p, dj_p, i_64A, i_64, j_32, lq_ge, lq_lt, lq_le, lq_gt, lq_eq, i_lt, i_le, i_eq, j_eq, iI_A, jI_J, iI_b, iI_v, jI_v, ↓reduceIte, ite_true, ite_false, Int.reduceEq, Int.reduceLT, Int.reduceLE, Int.reduceAdd, Int.reduceSub, Int.reduceMul, Int.reduceNeg, not_true_eq_false, not_false_eq_true, cp, h13b, sr, q2]
    · refine s_Model_plan hF hg ?_
      by_cases q3 : s < 0
      · simp (config := { maxSteps := 1000000 }) (disch := (first | omega | decide | assumption)) only [ltm_s, ok_n, rd_i, rd_j, fd_i, fd_j, wr_i, wr_j, fw_i, fw_j, ci_s, cj_s, cv_s, dv_n, dw_n, rt_1, rt_b, rt_20, rt_21, okb_0, okb_1, okb_b, nar_0, nar_1, nar_b, i_0, i_1, j_0, j_1, i_lit, j_lit, i_n, iI_add, iI_sub, iI_mul, iI_neg, jI_add, jI_sub, jI_mul, jI_neg, sh_1, an_1, xo_1, di_p, dj_p, i_64A, i_64, j_32, lq_ge, lq_lt, lq_le, lq_gt, lq_eq, i_lt, i_le, i_eq, j_eq, iI_A, jI_J, iI_b, iI_v, jI_v, ↓reduceIte, ite_true, ite_false, Int.reduceEq, Int.reduceLT, Int.reduceLE, Int.reduceAdd, Int.reduceSub, Int.reduceMul, Int.reduceNeg, not_true_eq_false, not_false_eq_true, mp, q3]
      · have q4 : ¬ s < p2 (A M 219 37) := fun h => q2 (sz.mpr ⟨by omega, h⟩)
        simp (config := { maxSteps := 1000000 }) (disch := (first | omega | decide | assumption)) only [ltm_s, ok_n, rd_i, rd_j, fd_i, fd_j, wr_i, wr_j, fw_i, fw_j, ci_s, cj_s, cv_s, dv_n, dw_n, rt_1, rt_b, rt_20, rt_21, okb_0, okb_1, okb_b, nar_0, nar_1, nar_b, i_0, i_1, j_0, j_1, i_lit, j_lit, i_n, iI_add, iI_sub, iI_mul, iI_neg, jI_add, jI_sub, jI_mul, jI_neg, sh_1, an_1, xo_1, di_p, dj_p, i_64A, i_64, j_32, lq_ge, lq_lt, lq_le, lq_gt, lq_eq, i_lt, i_le, i_eq, j_eq, iI_A, jI_J, iI_b, iI_v, jI_v, ↓reduceIte, ite_true, ite_false, Int.reduceEq, Int.reduceLT, Int.reduceLE, Int.reduceAdd, Int.reduceSub, Int.reduceMul, Int.reduceNeg, not_true_eq_false, not_false_eq_true, mp, q3, sl1, q4]
end Pb
