/-! BAN, PUPIL, TAKEN: what they change -/
section Bn
variable {M0 M M' : am_M} {g : am_G} {F : am_FT}
theorem dh_n {a : Int} (h0 : -2147483648 ≤ a) (h1 : a < 0) : iI a / iI 100 = iI (-((-a) / 100)) := by
  apply Int32.toInt_inj.mp
  rw [Int32.toInt_div_of_ne_right _ _ (by
    intro q
    have := congrArg Int32.toInt q
    rw [iI_v (by omega) (by omega)] at this
    revert this; decide), iI_v h0 (by omega), iI_v (by omega) (by omega), iI_v (by omega) (by omega)]
  have e : a = -(-a) := by omega
  rw [e, Int.neg_tdiv, Int.tdiv_eq_ediv_of_nonneg (by omega)]
  simp only [Int.neg_neg]
theorem c_noPupil (hF : F = am_F T0 g) (hg : GG g) (h15 : I15 M) {v : Int} (v1 : -2147483648 ≤ v) (v2 : v < 2147483648) : F 152 0 [.ref 0, .int (iI v)] [] M = some (some (.int (iI (bI (v < 0 ∨ A M 219 41 - 1 < v)))), M) := by
  obtain ⟨a1, a2, -⟩ := h15
  refine s_RunSayer_noPupil hF hg ?_
  simp (config := { maxSteps := 1000000 }) (disch := (first | omega | decide | assumption)) only [ltm_s, ok_n, rd_i, rd_j, fd_i, fd_j, wr_i, wr_j, fw_i, fw_j, ci_s, cj_s, cv_s, dv_n, dw_n, rt_1, rt_b, rt_20, rt_21, okb_0, okb_1, okb_b, nar_0, nar_1, nar_b, i_0, i_1, j_0, j_1, i_lit, j_lit, i_n, iI_add, iI_sub, iI_mul, iI_neg, jI_add, jI_sub, jI_mul, jI_neg, sh_1, an_1, xo_1, di_p, dj_p, i_64A, i_64, j_32, lq_ge, lq_lt, lq_le, lq_gt, lq_eq, i_lt, i_le, i_eq, j_eq, iI_A, jI_J, iI_b, iI_v, jI_v, ↓reduceIte, ite_true, ite_false, Int.reduceEq, Int.reduceLT, Int.reduceLE, Int.reduceAdd, Int.reduceSub, Int.reduceMul, Int.reduceNeg, not_true_eq_false, not_false_eq_true, a2, c_outside hF hg]
theorem m_isPupil (hF : F = am_F T0 g) (hg : GG g) (a1 : 0 ≤ A M 219 41 ∧ A M 219 41 ≤ 4) {v : Int} (v1 : -2147483648 ≤ v) (v2 : v < 2147483648) : F 119 0 [.ref 219, .int (iI v)] [] M = some (some (.int (iI (bI (0 ≤ v ∧ v ≤ A M 219 41 - 1)))), M) := by
  refine s_Model_isPupil hF hg ?_
  simp (config := { maxSteps := 1000000 }) (disch := (first | omega | decide | assumption)) only [ltm_s, ok_n, rd_i, rd_j, fd_i, fd_j, wr_i, wr_j, fw_i, fw_j, ci_s, cj_s, cv_s, dv_n, dw_n, rt_1, rt_b, rt_20, rt_21, okb_0, okb_1, okb_b, nar_0, nar_1, nar_b, i_0, i_1, j_0, j_1, i_lit, j_lit, i_n, iI_add, iI_sub, iI_mul, iI_neg, jI_add, jI_sub, jI_mul, jI_neg, sh_1, an_1, xo_1, di_p, dj_p, i_64A, i_64, j_32, lq_ge, lq_lt, lq_le, lq_gt, lq_eq, i_lt, i_le, i_eq, j_eq, iI_A, jI_J, iI_b, iI_v, jI_v, ↓reduceIte, ite_true, ite_false, Int.reduceEq, Int.reduceLT, Int.reduceLE, Int.reduceAdd, Int.reduceSub, Int.reduceMul, Int.reduceNeg, not_true_eq_false, not_false_eq_true, m_inn hF hg]
theorem b_pupil (hF : F = am_F T0 g) (hg : GG g) (hI : Inv M) {v : Int} (v1 : -2147483648 ≤ v) (v2 : v < 2147483648) :
    ∃ (r : Int) (M1 M2 : am_M), F 158 0 [.ref 0, .int (iI v)] [] M = some (some (.int (iI r)), M1) ∧ F 131 0 [.ref 219, .int (iI v)] [] M1 = some (some (.int (iI r)), M2) ∧ Inv M2 := by
  have hI' := hI
  obtain ⟨h1, h2, h3, h4, h5, h6, h7, h8, h9, h10, h11, h12, h13, h14, h15, h16, h17, h18, h19, hm, ht⟩ := hI
  obtain ⟨a1, a2, a3, a4⟩ := h15
  by_cases q1 : v < 1 ∨ 30 < v
  · refine ⟨-2, M, M, ?_, ?_, hI'⟩
    · refine s_RunSayer_pupil hF hg ?_
      simp (config := { maxSteps := 1000000 }) (disch := (first | omega | decide | assumption)) only [ltm_s, ok_n, rd_i, rd_j, fd_i, fd_j, wr_i, wr_j, fw_i, fw_j, ci_s, cj_s, cv_s, dv_n, dw_n, rt_1, rt_b, rt_20, rt_21, okb_0, okb_1, okb_b, nar_0, nar_1, nar_b, i_0, i_1, j_0, j_1, i_lit, j_lit, i_n, iI_add, iI_sub, iI_mul, iI_neg, jI_add, jI_sub, jI_mul, jI_neg, sh_1, an_1, xo_1, di_p, dj_p, i_64A, i_64, j_32, lq_ge, lq_lt, lq_le, lq_gt, lq_eq, i_lt, i_le, i_eq, j_eq, iI_A, jI_J, iI_b, iI_v, jI_v, ↓reduceIte, ite_true, ite_false, Int.reduceEq, Int.reduceLT, Int.reduceLE, Int.reduceAdd, Int.reduceSub, Int.reduceMul, Int.reduceNeg, not_true_eq_false, not_false_eq_true, c_outside hF hg, bI_t q1]
    · refine s_Model_pupil hF hg ?_
      have q2 : ¬ (1 ≤ v ∧ v ≤ 30) := by omega
      simp (config := { maxSteps := 1000000 }) (disch := (first | omega | decide | assumption)) only [ltm_s, ok_n, rd_i, rd_j, fd_i, fd_j, wr_i, wr_j, fw_i, fw_j, ci_s, cj_s, cv_s, dv_n, dw_n, rt_1, rt_b, rt_20, rt_21, okb_0, okb_1, okb_b, nar_0, nar_1, nar_b, i_0, i_1, j_0, j_1, i_lit, j_lit, i_n, iI_add, iI_sub, iI_mul, iI_neg, jI_add, jI_sub, jI_mul, jI_neg, sh_1, an_1, xo_1, di_p, dj_p, i_64A, i_64, j_32, lq_ge, lq_lt, lq_le, lq_gt, lq_eq, i_lt, i_le, i_eq, j_eq, iI_A, jI_J, iI_b, iI_v, jI_v, ↓reduceIte, ite_true, ite_false, Int.reduceEq, Int.reduceLT, Int.reduceLE, Int.reduceAdd, Int.reduceSub, Int.reduceMul, Int.reduceNeg, not_true_eq_false, not_false_eq_true, m_inn hF hg, bI_f q2]
  have q2 : 1 ≤ v ∧ v ≤ 30 := by omega
  by_cases q3 : A M 219 41 = 4
  · refine ⟨-4, M, M, ?_, ?_, hI'⟩
    · refine s_RunSayer_pupil hF hg ?_
      simp (config := { maxSteps := 1000000 }) (disch := (first | omega | decide | assumption)) only [ltm_s, ok_n, rd_i, rd_j, fd_i, fd_j, wr_i, wr_j, fw_i, fw_j, ci_s, cj_s, cv_s, dv_n, dw_n, rt_1, rt_b, rt_20, rt_21, okb_0, okb_1, okb_b, nar_0, nar_1, nar_b, i_0, i_1, j_0, j_1, i_lit, j_lit, i_n, iI_add, iI_sub, iI_mul, iI_neg, jI_add, jI_sub, jI_mul, jI_neg, sh_1, an_1, xo_1, di_p, dj_p, i_64A, i_64, j_32, lq_ge, lq_lt, lq_le, lq_gt, lq_eq, i_lt, i_le, i_eq, j_eq, iI_A, jI_J, iI_b, iI_v, jI_v, ↓reduceIte, ite_true, ite_false, Int.reduceEq, Int.reduceLT, Int.reduceLE, Int.reduceAdd, Int.reduceSub, Int.reduceMul, Int.reduceNeg, not_true_eq_false, not_false_eq_true, c_outside hF hg, bI_f q1, a2, q3]
    · refine s_Model_pupil hF hg ?_
      simp (config := { maxSteps := 1000000 }) (disch := (first | omega | decide | assumption)) only [ltm_s, ok_n, rd_i, rd_j, fd_i, fd_j, wr_i, wr_j, fw_i, fw_j, ci_s, cj_s, cv_s, dv_n, dw_n, rt_1, rt_b, rt_20, rt_21, okb_0, okb_1, okb_b, nar_0, nar_1, nar_b, i_0, i_1, j_0, j_1, i_lit, j_lit, i_n, iI_add, iI_sub, iI_mul, iI_neg, jI_add, jI_sub, jI_mul, jI_neg, sh_1, an_1, xo_1, di_p, dj_p, i_64A, i_64, j_32, lq_ge, lq_lt, lq_le, lq_gt, lq_eq, i_lt, i_le, i_eq, j_eq, iI_A, jI_J, iI_b, iI_v, jI_v, ↓reduceIte, ite_true, ite_false, Int.reduceEq, Int.reduceLT, Int.reduceLE, Int.reduceAdd, Int.reduceSub, Int.reduceMul, Int.reduceNeg, not_true_eq_false, not_false_eq_true, m_inn hF hg, bI_t q2, q3]
  have q4 : A M 219 41 < 4 := by omega
  obtain ⟨M1, e1⟩ : ∃ x : am_M, x = W_ (W_ M (72 + 5 * (A M 219 41).toNat) 0 v) 0 11 (A M 219 41 + 1) := ⟨_, rfl⟩
  obtain ⟨M2, e2⟩ : ∃ x : am_M, x = W_ (W_ (W_ (W_ M (72 + 5 * (A M 219 41).toNat) 0 v) 0 11 (A M 219 41 + 1)) 250 (A M 219 41) v) 219 41 (A M 219 41 + 1) := ⟨_, rfl⟩
  have hrow : 72 + 5 * (A M 219 41).toNat ∈ [250, 72, 77, 82, 87] := by
    have : A M 219 41 = 0 ∨ A M 219 41 = 1 ∨ A M 219 41 = 2 ∨ A M 219 41 = 3 := by omega
    rcases this with q | q | q | q <;> rw [q] <;> decide
  have hne : ∀ a : Nat, a = 0 ∨ 219 ≤ a → ¬ a = 72 + 5 * (A M 219 41).toNat := fun a ha => by omega
  have n0 := hne 0 (by omega)
  have n219 := hne 219 (by omega)
  have n250 := hne 250 (by omega)
  have c : Ch [250, 72, 77, 82, 87] [(0, 11), (219, 41)] M M2 := by
    rw [e2]; exact (((Ch.refl.wm (Or.inl hrow)).wm (Or.inr (by decide))).wm (Or.inl (by decide))).wm (Or.inr (by decide))
  have f1 : A (W_ M (72 + 5 * (A M 219 41).toNat) 0 v) 0 11 = A M 219 41 := by
    rw [A_Wn n0, a2]
  refine ⟨A M 219 41, M1, M2, ?_, ?_, ?_⟩
  · rw [e1]
    refine s_RunSayer_pupil hF hg ?_
    simp (config := { maxSteps := 1000000 }) (disch := (first | omega | decide | assumption)) only [ltm_s, ok_n, rd_i, rd_j, fd_i, fd_j, wr_i, wr_j, fw_i, fw_j, ci_s, cj_s, cv_s, dv_n, dw_n, rt_1, rt_b, rt_20, rt_21, okb_0, okb_1, okb_b, nar_0, nar_1, nar_b, i_0, i_1, j_0, j_1, i_lit, j_lit, i_n, iI_add, iI_sub, iI_mul, iI_neg, jI_add, jI_sub, jI_mul, jI_neg, sh_1, an_1, xo_1, di_p, dj_p, i_64A, i_64, j_32, lq_ge, lq_lt, lq_le, lq_gt, lq_eq, i_lt, i_le, i_eq, j_eq, iI_A, jI_J, iI_b, iI_v, jI_v, ↓reduceIte, ite_true, ite_false, Int.reduceEq, Int.reduceLT, Int.reduceLE, Int.reduceAdd, Int.reduceSub, Int.reduceMul, Int.reduceNeg, not_true_eq_false, not_false_eq_true, iI_n, rdn_i, rdn_j, wrn_i, wrn_j, A_Wn, A_WA, A_Wb, A_Ws, A_Wo, A_X, J_W, J_Xn, J_XJ, J_Xs, J_Xo, c_outside hF hg, bI_f q1, a2, q4, f1]
    rw [Int.add_sub_cancel]
  · have f2 : A M1 219 41 = A M 219 41 := by
      rw [e1, A_Wn (by decide), A_Wn n219]
    rw [e2, ← e1]
    refine s_Model_pupil hF hg ?_
    simp (config := { maxSteps := 1000000 }) (disch := (first | omega | decide | assumption)) only [ltm_s, ok_n, rd_i, rd_j, fd_i, fd_j, wr_i, wr_j, fw_i, fw_j, ci_s, cj_s, cv_s, dv_n, dw_n, rt_1, rt_b, rt_20, rt_21, okb_0, okb_1, okb_b, nar_0, nar_1, nar_b, i_0, i_1, j_0, j_1, i_lit, j_lit, i_n, iI_add, iI_sub, iI_mul, iI_neg, jI_add, jI_sub, jI_mul, jI_neg, sh_1, an_1, xo_1, di_p, dj_p, i_64A, i_64, j_32, lq_ge, lq_lt, lq_le, lq_gt, lq_eq, i_lt, i_le, i_eq, j_eq, iI_A, jI_J, iI_b, iI_v, jI_v, ↓reduceIte, ite_true, ite_false, Int.reduceEq, Int.reduceLT, Int.reduceLE, Int.reduceAdd, Int.reduceSub, Int.reduceMul, Int.reduceNeg, not_true_eq_false, not_false_eq_true, A_Wn, A_WA, A_Wb, A_Ws, A_Wo, A_X, J_W, J_Xn, J_XJ, J_Xs, J_Xo, m_inn hF hg, bI_t q2, f2, q3]
    rw [Int.add_sub_cancel]
  have s41 : A M2 219 41 = A M 219 41 + 1 := by
    rw [e2]; simp (config := { maxSteps := 1000000 }) (disch := (first | omega | decide | assumption)) only [ltm_s, ok_n, rd_i, rd_j, fd_i, fd_j, wr_i, wr_j, fw_i, fw_j, ci_s, cj_s, cv_s, dv_n, dw_n, rt_1, rt_b, rt_20, rt_21, okb_0, okb_1, okb_b, nar_0, nar_1, nar_b, i_0, i_1, j_0, j_1, i_lit, j_lit, i_n, iI_add, iI_sub, iI_mul, iI_neg, jI_add, jI_sub, jI_mul, jI_neg, sh_1, an_1, xo_1, di_p, dj_p, i_64A, i_64, j_32, lq_ge, lq_lt, lq_le, lq_gt, lq_eq, i_lt, i_le, i_eq, j_eq, iI_A, jI_J, iI_b, iI_v, jI_v, ↓reduceIte, ite_true, ite_false, Int.reduceEq, Int.reduceLT, Int.reduceLE, Int.reduceAdd, Int.reduceSub, Int.reduceMul, Int.reduceNeg, not_true_eq_false, not_false_eq_true, A_Wn, A_WA, A_Wb, A_Ws, A_Wo, A_X, J_W, J_Xn, J_XJ, J_Xs, J_Xo]
  have s11 : A M2 0 11 = A M 219 41 + 1 := by
    rw [e2]; simp (config := { maxSteps := 1000000 }) (disch := (first | omega | decide | assumption)) only [ltm_s, ok_n, rd_i, rd_j, fd_i, fd_j, wr_i, wr_j, fw_i, fw_j, ci_s, cj_s, cv_s, dv_n, dw_n, rt_1, rt_b, rt_20, rt_21, okb_0, okb_1, okb_b, nar_0, nar_1, nar_b, i_0, i_1, j_0, j_1, i_lit, j_lit, i_n, iI_add, iI_sub, iI_mul, iI_neg, jI_add, jI_sub, jI_mul, jI_neg, sh_1, an_1, xo_1, di_p, dj_p, i_64A, i_64, j_32, lq_ge, lq_lt, lq_le, lq_gt, lq_eq, i_lt, i_le, i_eq, j_eq, iI_A, jI_J, iI_b, iI_v, jI_v, ↓reduceIte, ite_true, ite_false, Int.reduceEq, Int.reduceLT, Int.reduceLE, Int.reduceAdd, Int.reduceSub, Int.reduceMul, Int.reduceNeg, not_true_eq_false, not_false_eq_true, A_Wn, A_WA, A_Wb, A_Ws, A_Wo, A_X, J_W, J_Xn, J_XJ, J_Xs, J_Xo]
  have r250 : ∀ i : Int, 0 ≤ i → ¬ i = A M 219 41 → A M2 250 i = A M 250 i := fun i i0 i1 => by
    rw [e2, A_Wn (by decide), A_Wo (by omega) i0 i1, A_Wn (by decide), A_Wn n250]
  have s250 : A M2 250 (A M 219 41) = v := by
    rw [e2]; simp (config := { maxSteps := 1000000 }) (disch := (first | omega | decide | assumption)) only [ltm_s, ok_n, rd_i, rd_j, fd_i, fd_j, wr_i, wr_j, fw_i, fw_j, ci_s, cj_s, cv_s, dv_n, dw_n, rt_1, rt_b, rt_20, rt_21, okb_0, okb_1, okb_b, nar_0, nar_1, nar_b, i_0, i_1, j_0, j_1, i_lit, j_lit, i_n, iI_add, iI_sub, iI_mul, iI_neg, jI_add, jI_sub, jI_mul, jI_neg, sh_1, an_1, xo_1, di_p, dj_p, i_64A, i_64, j_32, lq_ge, lq_lt, lq_le, lq_gt, lq_eq, i_lt, i_le, i_eq, j_eq, iI_A, jI_J, iI_b, iI_v, jI_v, ↓reduceIte, ite_true, ite_false, Int.reduceEq, Int.reduceLT, Int.reduceLE, Int.reduceAdd, Int.reduceSub, Int.reduceMul, Int.reduceNeg, not_true_eq_false, not_false_eq_true, A_Wn, A_WA, A_Wb, A_Ws, A_Wo, A_X, J_W, J_Xn, J_XJ, J_Xs, J_Xo]
  have r72 : ∀ p : Int, 0 ≤ p → ¬ p = A M 219 41 → p < 4 → A M2 (72 + 5 * p.toNat) 0 = A M (72 + 5 * p.toNat) 0 := fun p p0 p1 p2 => by
    rw [e2, A_Wn (by omega), A_Wn (by omega), A_Wn (by omega), A_Wn (by omega)]
  have s72 : A M2 (72 + 5 * (A M 219 41).toNat) 0 = v := by
    rw [e2, A_Wn (by omega), A_Wn (by omega), A_Wn (by omega), A_Ws (by omega) (by omega)]
  refine ⟨c.i1 rfl h1, c.i2 rfl h2, c.i3 rfl h3, c.i4 rfl h4, c.i5 rfl h5, c.i6 rfl h6, c.i7 rfl h7, c.i8 rfl h8, ?_, c.i10 rfl h10, c.i11 rfl h11, c.i12 rfl h12, c.i13 rfl h13, c.i14 rfl h14, ?_, c.i16 rfl h16, c.i17 rfl h17, c.i18 rfl h18, c.i19 rfl h19, c.imk rfl hm, c.itd rfl ht⟩
  · refine ⟨fun p p0 p1 => ?_, fun t t0 t1 => ?_⟩
    · by_cases q : p = A M 219 41
      · rw [q, s250]; omega
      · rw [r250 p p0 q]; exact h9.1 p p0 p1
    · rw [c.a (a := 251) rfl, c.a (a := 252) rfl]; exact h9.2 t t0 t1
  · refine ⟨by rw [s41]; omega, by rw [s41, s11], fun p p0 p1 => ?_, fun p p0 p1 => ?_⟩
    · rw [s41] at p1
      by_cases q : p = A M 219 41
      · rw [q, s72, s250]
      · rw [r72 p p0 q (by omega), r250 p p0 q]; exact a3 p p0 (by omega)
    · have d := a4 p p0 p1
      have g1 : ∀ z, A M2 (72 + 5 * p.toNat + 1) z = A M (72 + 5 * p.toNat + 1) z := fun z => by
        rw [e2, A_Wn (by omega), A_Wn (by omega), A_Wn (by omega), A_Wn (by omega)]
      have g2 : ∀ z, A M2 (72 + 5 * p.toNat + 2) z = A M (72 + 5 * p.toNat + 2) z := fun z => by
        rw [e2, A_Wn (by omega), A_Wn (by omega), A_Wn (by omega), A_Wn (by omega)]
      have g3 : ∀ z, A M2 45 z = A M 45 z := fun z => c.a rfl
      have g4 : ∀ z, A M2 251 z = A M 251 z := fun z => c.a rfl
      have g5 : ∀ z, A M2 252 z = A M 252 z := fun z => c.a rfl
      have g6 : A M2 42 2 = A M 42 2 := c.f rfl
      unfold B15
      simp only [g1, g2, g3, g4, g5, g6]
      exact d
theorem b_taken (hF : F = am_F T0 g) (hg : GG g) (hI : Inv M) {t s : Int} (t1 : -2147483648 ≤ t) (t2 : t < 2147483648) (s1 : -2147483648 ≤ s) (s2 : s < 2147483648) :
    ∃ (r : Int) (M1 M2 : am_M), F 211 0 [.ref 0, .int (iI t), .int (iI s)] [] M = some (some (.int (iI r)), M1) ∧ F 140 0 [.ref 219, .int (iI t), .int (iI s)] [] M1 = some (some (.int (iI r)), M2) ∧ Inv M2 := by
  have hI' := hI
  obtain ⟨h1, h2, h3, h4, h5, h6, h7, h8, h9, h10, h11, h12, h13, h14, h15, h16, h17, h18, h19, hm, ht⟩ := hI
  by_cases q1 : s < 0 ∨ 8 < s
  · refine ⟨-2, M, M, ?_, ?_, hI'⟩
    · refine s_RunSayer_taken hF hg ?_
      simp (config := { maxSteps := 1000000 }) (disch := (first | omega | decide | assumption)) only [ltm_s, ok_n, rd_i, rd_j, fd_i, fd_j, wr_i, wr_j, fw_i, fw_j, ci_s, cj_s, cv_s, dv_n, dw_n, rt_1, rt_b, rt_20, rt_21, okb_0, okb_1, okb_b, nar_0, nar_1, nar_b, i_0, i_1, j_0, j_1, i_lit, j_lit, i_n, iI_add, iI_sub, iI_mul, iI_neg, jI_add, jI_sub, jI_mul, jI_neg, sh_1, an_1, xo_1, di_p, dj_p, i_64A, i_64, j_32, lq_ge, lq_lt, lq_le, lq_gt, lq_eq, i_lt, i_le, i_eq, j_eq, iI_A, jI_J, iI_b, iI_v, jI_v, ↓reduceIte, ite_true, ite_false, Int.reduceEq, Int.reduceLT, Int.reduceLE, Int.reduceAdd, Int.reduceSub, Int.reduceMul, Int.reduceNeg, not_true_eq_false, not_false_eq_true, c_outside hF hg, bI_t q1]
    · refine s_Model_taken hF hg ?_
      have q2 : ¬ (0 ≤ s ∧ s ≤ 8) := by omega
      simp (config := { maxSteps := 1000000 }) (disch := (first | omega | decide | assumption)) only [ltm_s, ok_n, rd_i, rd_j, fd_i, fd_j, wr_i, wr_j, fw_i, fw_j, ci_s, cj_s, cv_s, dv_n, dw_n, rt_1, rt_b, rt_20, rt_21, okb_0, okb_1, okb_b, nar_0, nar_1, nar_b, i_0, i_1, j_0, j_1, i_lit, j_lit, i_n, iI_add, iI_sub, iI_mul, iI_neg, jI_add, jI_sub, jI_mul, jI_neg, sh_1, an_1, xo_1, di_p, dj_p, i_64A, i_64, j_32, lq_ge, lq_lt, lq_le, lq_gt, lq_eq, i_lt, i_le, i_eq, j_eq, iI_A, jI_J, iI_b, iI_v, jI_v, ↓reduceIte, ite_true, ite_false, Int.reduceEq, Int.reduceLT, Int.reduceLE, Int.reduceAdd, Int.reduceSub, Int.reduceMul, Int.reduceNeg, not_true_eq_false, not_false_eq_true, m_inn hF hg, bI_f q2]
  have q2 : 0 ≤ s ∧ s ≤ 8 := by omega
  have e34 : A M 0 19 = A M 219 34 := h11
  have h10' := h10
  obtain ⟨b1, b2, b3⟩ := h10'
  have hj := h1.1
  have hw := h2.1
  have hd := h4.1
  obtain ⟨M1, e1⟩ : ∃ x : am_M, x = W_ M 0 19 (A M 219 34 + 1) := ⟨_, rfl⟩
  obtain ⟨M2, e2⟩ : ∃ x : am_M, x = W_ M1 219 34 (A M 219 34 + 1) := ⟨_, rfl⟩
  have c1 : Ch [] [(0, 19)] M M1 := by
    rw [e1]; exact Ch.refl.wm (Or.inr (by decide))
  have c2 : Ch [] [(219, 34)] M1 M2 := by
    rw [e2]; exact Ch.refl.wm (Or.inr (by decide))
  have c : Ch [] [(0, 19), (219, 34)] M M2 := (c1.mono rfl).trans (c2.mono rfl)
  have inv : Inv M2 := by
    refine ⟨c.i1 rfl h1, c.i2 rfl h2, c.i3 rfl h3, c.i4 rfl h4, c.i5 rfl h5, c.i6 rfl h6, c.i7 rfl h7, c.i8 rfl h8, c.i9 rfl h9, c.i10 rfl h10, ?_, c.i12 rfl h12, c.i13 rfl h13, c.i14 rfl h14, c.i15 rfl h15, c.i16 rfl h16, c.i17 rfl h17, c.i18 rfl h18, c.i19 rfl h19, c.imk rfl hm, c.itd rfl ht⟩
    show A M2 0 19 = A M2 219 34
    rw [c2.f (a := 0) (z := 19) rfl, e1, A_Wv, e2, A_Wv]
  have f17 : A M1 1 17 = A M 219 31 := by rw [c1.f (a := 1) (z := 17) rfl, b2]
  have f31 : A M2 219 31 = A M 219 31 := c.f (a := 219) (z := 31) rfl
  have f34 : A M1 219 34 = A M 219 34 := c1.f (a := 219) (z := 34) rfl
  have w1 : W_ M 0 19 (A M 219 34 + 1) = M1 := e1.symm
  have w2 : W_ M1 219 34 (A M 219 34 + 1) = M2 := e2.symm
  by_cases q3 : t < 0 ∨ A M 219 31 - 1 < t
  · refine ⟨-11, M1, M2, ?_, ?_, inv⟩
    · refine s_RunSayer_taken hF hg ?_
      simp (config := { maxSteps := 1000000 }) (disch := (first | omega | decide | assumption)) only [ltm_s, ok_n, rd_i, rd_j, fd_i, fd_j, wr_i, wr_j, fw_i, fw_j, ci_s, cj_s, cv_s, dv_n, dw_n, rt_1, rt_b, rt_20, rt_21, okb_0, okb_1, okb_b, nar_0, nar_1, nar_b, i_0, i_1, j_0, j_1, i_lit, j_lit, i_n, iI_add, iI_sub, iI_mul, iI_neg, jI_add, jI_sub, jI_mul, jI_neg, sh_1, an_1, xo_1, di_p, dj_p, i_64A, i_64, j_32, lq_ge, lq_lt, lq_le, lq_gt, lq_eq, i_lt, i_le, i_eq, j_eq, iI_A, jI_J, iI_b, iI_v, jI_v, ↓reduceIte, ite_true, ite_false, Int.reduceEq, Int.reduceLT, Int.reduceLE, Int.reduceAdd, Int.reduceSub, Int.reduceMul, Int.reduceNeg, not_true_eq_false, not_false_eq_true, c_outside hF hg, bI_f q1, e34, w1, f17, bI_t q3]
    · refine s_Model_taken hF hg ?_
      have q4 : ¬ (0 ≤ t ∧ t ≤ A M 219 31 - 1) := by omega
      simp (config := { maxSteps := 1000000 }) (disch := (first | omega | decide | assumption)) only [ltm_s, ok_n, rd_i, rd_j, fd_i, fd_j, wr_i, wr_j, fw_i, fw_j, ci_s, cj_s, cv_s, dv_n, dw_n, rt_1, rt_b, rt_20, rt_21, okb_0, okb_1, okb_b, nar_0, nar_1, nar_b, i_0, i_1, j_0, j_1, i_lit, j_lit, i_n, iI_add, iI_sub, iI_mul, iI_neg, jI_add, jI_sub, jI_mul, jI_neg, sh_1, an_1, xo_1, di_p, dj_p, i_64A, i_64, j_32, lq_ge, lq_lt, lq_le, lq_gt, lq_eq, i_lt, i_le, i_eq, j_eq, iI_A, jI_J, iI_b, iI_v, jI_v, ↓reduceIte, ite_true, ite_false, Int.reduceEq, Int.reduceLT, Int.reduceLE, Int.reduceAdd, Int.reduceSub, Int.reduceMul, Int.reduceNeg, not_true_eq_false, not_false_eq_true, m_inn hF hg, bI_t q2, f34, w2, f31, bI_f q4]
  have q4 : 0 ≤ t ∧ t ≤ A M 219 31 - 1 := by omega
  obtain ⟨d1, d2, d3⟩ := b3 t (by omega) (by omega)
  have g14 : A M1 14 t = A M 244 t := by rw [c1.a (a := 14) rfl]; exact d1
  have g15 : A M1 15 t = A M 245 t := by rw [c1.a (a := 15) rfl]; exact d2
  have g244 : A M2 244 t = A M 244 t := c.a (a := 244) rfl
  have g245 : A M2 245 t = A M 245 t := c.a (a := 245) rfl
  -- it suffices to have the thing taken
  have up : ∀ r : Int, F 89 0 [.ref 1, .int (iI t), .int (iI s)] [] M1 = some (some (.int (iI r)), M1) → F 211 0 [.ref 0, .int (iI t), .int (iI s)] [] M = some (some (.int (iI r)), M1) := fun r h => by
    refine s_RunSayer_taken hF hg ?_
    simp (config := { maxSteps := 1000000 }) (disch := (first | omega | decide | assumption)) only [ltm_s, ok_n, rd_i, rd_j, fd_i, fd_j, wr_i, wr_j, fw_i, fw_j, ci_s, cj_s, cv_s, dv_n, dw_n, rt_1, rt_b, rt_20, rt_21, okb_0, okb_1, okb_b, nar_0, nar_1, nar_b, i_0, i_1, j_0, j_1, i_lit, j_lit, i_n, iI_add, iI_sub, iI_mul, iI_neg, jI_add, jI_sub, jI_mul, jI_neg, sh_1, an_1, xo_1, di_p, dj_p, i_64A, i_64, j_32, lq_ge, lq_lt, lq_le, lq_gt, lq_eq, i_lt, i_le, i_eq, j_eq, iI_A, jI_J, iI_b, iI_v, jI_v, ↓reduceIte, ite_true, ite_false, Int.reduceEq, Int.reduceLT, Int.reduceLE, Int.reduceAdd, Int.reduceSub, Int.reduceMul, Int.reduceNeg, not_true_eq_false, not_false_eq_true, c_outside hF hg, bI_f q1, e34, w1, f17, bI_f q3, h]
  have mm : F 53 0 [.int (iI t), .int (iI 0), .int (iI (A M 219 31 - 1))] [] M2 = some (some (.int (iI 1)), M2) := by
    rw [m_inn hF hg t1 t2 (by omega) (by omega) (by omega) (by omega), bI_t q4]
  have ms : F 53 0 [.int (iI s), .int (iI 0), .int (iI 8)] [] M1 = some (some (.int (iI 1)), M1) := by
    rw [m_inn hF hg s1 s2 (by omega) (by omega) (by omega) (by omega), bI_t q2]
  have tt : t < 72 := by omega
  by_cases p8 : s = 8
  · have n6 : ¬ s = 6 := by omega
    have n7 : ¬ s = 7 := by omega
    refine ⟨A M 244 t, M1, M2, up _ ?_, ?_, inv⟩
    · refine s_City_takeThing hF hg ?_
      simp (config := { maxSteps := 1000000 }) (disch := (first | omega | decide | assumption)) only [ltm_s, ok_n, rd_i, rd_j, fd_i, fd_j, wr_i, wr_j, fw_i, fw_j, ci_s, cj_s, cv_s, dv_n, dw_n, rt_1, rt_b, rt_20, rt_21, okb_0, okb_1, okb_b, nar_0, nar_1, nar_b, i_0, i_1, j_0, j_1, i_lit, j_lit, i_n, iI_add, iI_sub, iI_mul, iI_neg, jI_add, jI_sub, jI_mul, jI_neg, sh_1, an_1, xo_1, di_p, dj_p, i_64A, i_64, j_32, lq_ge, lq_lt, lq_le, lq_gt, lq_eq, i_lt, i_le, i_eq, j_eq, iI_A, jI_J, iI_b, iI_v, jI_v, ↓reduceIte, ite_true, ite_false, Int.reduceEq, Int.reduceLT, Int.reduceLE, Int.reduceAdd, Int.reduceSub, Int.reduceMul, Int.reduceNeg, not_true_eq_false, not_false_eq_true, n6, n7, eq_true p8, g14]
    · refine s_Model_taken hF hg ?_
      simp (config := { maxSteps := 1000000 }) (disch := (first | omega | decide | assumption)) only [ltm_s, ok_n, rd_i, rd_j, fd_i, fd_j, wr_i, wr_j, fw_i, fw_j, ci_s, cj_s, cv_s, dv_n, dw_n, rt_1, rt_b, rt_20, rt_21, okb_0, okb_1, okb_b, nar_0, nar_1, nar_b, i_0, i_1, j_0, j_1, i_lit, j_lit, i_n, iI_add, iI_sub, iI_mul, iI_neg, jI_add, jI_sub, jI_mul, jI_neg, sh_1, an_1, xo_1, di_p, dj_p, i_64A, i_64, j_32, lq_ge, lq_lt, lq_le, lq_gt, lq_eq, i_lt, i_le, i_eq, j_eq, iI_A, jI_J, iI_b, iI_v, jI_v, ↓reduceIte, ite_true, ite_false, Int.reduceEq, Int.reduceLT, Int.reduceLE, Int.reduceAdd, Int.reduceSub, Int.reduceMul, Int.reduceNeg, not_true_eq_false, not_false_eq_true, ms, f34, w2, f31, mm, eq_true p8, g244]
  by_cases p6 : s = 6
  · have n7 : ¬ s = 7 := by omega
    have n5 : ¬ s < 6 := by omega
    by_cases y : A M 244 t = 0
    · have hr : 0 ≤ A M 245 t ∧ A M 245 t < nJ M := by omega
      have x2 : A M1 2 (A M 245 t) = A M 220 (A M 245 t) := by
        rw [c1.a (a := 2) rfl]; exact (h1.2.2.1 _ hr.1 hr.2).2.2.2.1
      have x220 : A M2 220 (A M 245 t) = A M 220 (A M 245 t) := c.a (a := 220) rfl
      refine ⟨A M 220 (A M 245 t), M1, M2, up _ ?_, ?_, inv⟩
      · refine s_City_takeThing hF hg ?_
        simp (config := { maxSteps := 1000000 }) (disch := (first | omega | decide | assumption)) only [ltm_s, ok_n, rd_i, rd_j, fd_i, fd_j, wr_i, wr_j, fw_i, fw_j, ci_s, cj_s, cv_s, dv_n, dw_n, rt_1, rt_b, rt_20, rt_21, okb_0, okb_1, okb_b, nar_0, nar_1, nar_b, i_0, i_1, j_0, j_1, i_lit, j_lit, i_n, iI_add, iI_sub, iI_mul, iI_neg, jI_add, jI_sub, jI_mul, jI_neg, sh_1, an_1, xo_1, di_p, dj_p, i_64A, i_64, j_32, lq_ge, lq_lt, lq_le, lq_gt, lq_eq, i_lt, i_le, i_eq, j_eq, iI_A, jI_J, iI_b, iI_v, jI_v, ↓reduceIte, ite_true, ite_false, Int.reduceEq, Int.reduceLT, Int.reduceLE, Int.reduceAdd, Int.reduceSub, Int.reduceMul, Int.reduceNeg, not_true_eq_false, not_false_eq_true, eq_true p6, g14, g15, y, x2]
      · refine s_Model_taken hF hg ?_
        simp (config := { maxSteps := 1000000 }) (disch := (first | omega | decide | assumption)) only [ltm_s, ok_n, rd_i, rd_j, fd_i, fd_j, wr_i, wr_j, fw_i, fw_j, ci_s, cj_s, cv_s, dv_n, dw_n, rt_1, rt_b, rt_20, rt_21, okb_0, okb_1, okb_b, nar_0, nar_1, nar_b, i_0, i_1, j_0, j_1, i_lit, j_lit, i_n, iI_add, iI_sub, iI_mul, iI_neg, jI_add, jI_sub, jI_mul, jI_neg, sh_1, an_1, xo_1, di_p, dj_p, i_64A, i_64, j_32, lq_ge, lq_lt, lq_le, lq_gt, lq_eq, i_lt, i_le, i_eq, j_eq, iI_A, jI_J, iI_b, iI_v, jI_v, ↓reduceIte, ite_true, ite_false, Int.reduceEq, Int.reduceLT, Int.reduceLE, Int.reduceAdd, Int.reduceSub, Int.reduceMul, Int.reduceNeg, not_true_eq_false, not_false_eq_true, ms, f34, w2, f31, mm, p8, n5, eq_true p6, g244, g245, y, x220]
    · refine ⟨-13, M1, M2, up _ ?_, ?_, inv⟩
      · refine s_City_takeThing hF hg ?_
        simp (config := { maxSteps := 1000000 }) (disch := (first | omega | decide | assumption)) only [ltm_s, ok_n, rd_i, rd_j, fd_i, fd_j, wr_i, wr_j, fw_i, fw_j, ci_s, cj_s, cv_s, dv_n, dw_n, rt_1, rt_b, rt_20, rt_21, okb_0, okb_1, okb_b, nar_0, nar_1, nar_b, i_0, i_1, j_0, j_1, i_lit, j_lit, i_n, iI_add, iI_sub, iI_mul, iI_neg, jI_add, jI_sub, jI_mul, jI_neg, sh_1, an_1, xo_1, di_p, dj_p, i_64A, i_64, j_32, lq_ge, lq_lt, lq_le, lq_gt, lq_eq, i_lt, i_le, i_eq, j_eq, iI_A, jI_J, iI_b, iI_v, jI_v, ↓reduceIte, ite_true, ite_false, Int.reduceEq, Int.reduceLT, Int.reduceLE, Int.reduceAdd, Int.reduceSub, Int.reduceMul, Int.reduceNeg, not_true_eq_false, not_false_eq_true, eq_true p6, g14, y]
      · refine s_Model_taken hF hg ?_
        simp (config := { maxSteps := 1000000 }) (disch := (first | omega | decide | assumption)) only [ltm_s, ok_n, rd_i, rd_j, fd_i, fd_j, wr_i, wr_j, fw_i, fw_j, ci_s, cj_s, cv_s, dv_n, dw_n, rt_1, rt_b, rt_20, rt_21, okb_0, okb_1, okb_b, nar_0, nar_1, nar_b, i_0, i_1, j_0, j_1, i_lit, j_lit, i_n, iI_add, iI_sub, iI_mul, iI_neg, jI_add, jI_sub, jI_mul, jI_neg, sh_1, an_1, xo_1, di_p, dj_p, i_64A, i_64, j_32, lq_ge, lq_lt, lq_le, lq_gt, lq_eq, i_lt, i_le, i_eq, j_eq, iI_A, jI_J, iI_b, iI_v, jI_v, ↓reduceIte, ite_true, ite_false, Int.reduceEq, Int.reduceLT, Int.reduceLE, Int.reduceAdd, Int.reduceSub, Int.reduceMul, Int.reduceNeg, not_true_eq_false, not_false_eq_true, ms, f34, w2, f31, mm, p8, n5, eq_true p6, g244, y]
  by_cases p7 : s = 7
  · have n5 : ¬ s < 6 := by omega
    by_cases y : A M 244 t = 2
    · have hr : 0 ≤ A M 245 t ∧ A M 245 t < nD M := by omega
      have x2 : A M1 12 (A M 245 t) = A M 229 (A M 245 t) := by
        rw [c1.a (a := 12) rfl]; exact (h4.2.2 _ hr.1 hr.2).2.2.2.2.1
      have x220 : A M2 229 (A M 245 t) = A M 229 (A M 245 t) := c.a (a := 229) rfl
      refine ⟨A M 229 (A M 245 t), M1, M2, up _ ?_, ?_, inv⟩
      · refine s_City_takeThing hF hg ?_
        simp (config := { maxSteps := 1000000 }) (disch := (first | omega | decide | assumption)) only [ltm_s, ok_n, rd_i, rd_j, fd_i, fd_j, wr_i, wr_j, fw_i, fw_j, ci_s, cj_s, cv_s, dv_n, dw_n, rt_1, rt_b, rt_20, rt_21, okb_0, okb_1, okb_b, nar_0, nar_1, nar_b, i_0, i_1, j_0, j_1, i_lit, j_lit, i_n, iI_add, iI_sub, iI_mul, iI_neg, jI_add, jI_sub, jI_mul, jI_neg, sh_1, an_1, xo_1, di_p, dj_p, i_64A, i_64, j_32, lq_ge, lq_lt, lq_le, lq_gt, lq_eq, i_lt, i_le, i_eq, j_eq, iI_A, jI_J, iI_b, iI_v, jI_v, ↓reduceIte, ite_true, ite_false, Int.reduceEq, Int.reduceLT, Int.reduceLE, Int.reduceAdd, Int.reduceSub, Int.reduceMul, Int.reduceNeg, not_true_eq_false, not_false_eq_true, p6, eq_true p7, g14, g15, y, x2]
      · refine s_Model_taken hF hg ?_
        simp (config := { maxSteps := 1000000 }) (disch := (first | omega | decide | assumption)) only [ltm_s, ok_n, rd_i, rd_j, fd_i, fd_j, wr_i, wr_j, fw_i, fw_j, ci_s, cj_s, cv_s, dv_n, dw_n, rt_1, rt_b, rt_20, rt_21, okb_0, okb_1, okb_b, nar_0, nar_1, nar_b, i_0, i_1, j_0, j_1, i_lit, j_lit, i_n, iI_add, iI_sub, iI_mul, iI_neg, jI_add, jI_sub, jI_mul, jI_neg, sh_1, an_1, xo_1, di_p, dj_p, i_64A, i_64, j_32, lq_ge, lq_lt, lq_le, lq_gt, lq_eq, i_lt, i_le, i_eq, j_eq, iI_A, jI_J, iI_b, iI_v, jI_v, ↓reduceIte, ite_true, ite_false, Int.reduceEq, Int.reduceLT, Int.reduceLE, Int.reduceAdd, Int.reduceSub, Int.reduceMul, Int.reduceNeg, not_true_eq_false, not_false_eq_true, ms, f34, w2, f31, mm, p8, n5, p6, g244, g245, y, x220]
    · refine ⟨-13, M1, M2, up _ ?_, ?_, inv⟩
      · refine s_City_takeThing hF hg ?_
        simp (config := { maxSteps := 1000000 }) (disch := (first | omega | decide | assumption)) only [ltm_s, ok_n, rd_i, rd_j, fd_i, fd_j, wr_i, wr_j, fw_i, fw_j, ci_s, cj_s, cv_s, dv_n, dw_n, rt_1, rt_b, rt_20, rt_21, okb_0, okb_1, okb_b, nar_0, nar_1, nar_b, i_0, i_1, j_0, j_1, i_lit, j_lit, i_n, iI_add, iI_sub, iI_mul, iI_neg, jI_add, jI_sub, jI_mul, jI_neg, sh_1, an_1, xo_1, di_p, dj_p, i_64A, i_64, j_32, lq_ge, lq_lt, lq_le, lq_gt, lq_eq, i_lt, i_le, i_eq, j_eq, iI_A, jI_J, iI_b, iI_v, jI_v, ↓reduceIte, ite_true, ite_false, Int.reduceEq, Int.reduceLT, Int.reduceLE, Int.reduceAdd, Int.reduceSub, Int.reduceMul, Int.reduceNeg, not_true_eq_false, not_false_eq_true, p6, eq_true p7, g14, y]
      · refine s_Model_taken hF hg ?_
        simp (config := { maxSteps := 1000000 }) (disch := (first | omega | decide | assumption)) only [ltm_s, ok_n, rd_i, rd_j, fd_i, fd_j, wr_i, wr_j, fw_i, fw_j, ci_s, cj_s, cv_s, dv_n, dw_n, rt_1, rt_b, rt_20, rt_21, okb_0, okb_1, okb_b, nar_0, nar_1, nar_b, i_0, i_1, j_0, j_1, i_lit, j_lit, i_n, iI_add, iI_sub, iI_mul, iI_neg, jI_add, jI_sub, jI_mul, jI_neg, sh_1, an_1, xo_1, di_p, dj_p, i_64A, i_64, j_32, lq_ge, lq_lt, lq_le, lq_gt, lq_eq, i_lt, i_le, i_eq, j_eq, iI_A, jI_J, iI_b, iI_v, jI_v, ↓reduceIte, ite_true, ite_false, Int.reduceEq, Int.reduceLT, Int.reduceLE, Int.reduceAdd, Int.reduceSub, Int.reduceMul, Int.reduceNeg, not_true_eq_false, not_false_eq_true, ms, f34, w2, f31, mm, p8, n5, p6, g244, y]
  have n5 : s < 6 := by omega
  by_cases y : A M 244 t = 1
  · have hr : 0 ≤ A M 245 t ∧ A M 245 t < nW M := by omega
    obtain ⟨k1, k2, k3, k4, k5, k6⟩ := h2.2.2.1 _ hr.1 hr.2
    have x5 : A M1 5 (A M 245 t) = kd M (A M 245 t) := by
      rw [c1.a (a := 5) rfl]; exact k4
    have x6 : A M1 6 (A M 245 t) = ft M (A M 245 t) := by
      rw [c1.a (a := 6) rfl]; exact k5
    have x223 : A M2 223 (A M 245 t) = kd M (A M 245 t) := c.a (a := 223) rfl
    have x226 : A M2 226 (A M 245 t) = ft M (A M 245 t) := c.a (a := 226) rfl
    have ck := c_isOfKind hF hg (M := M1) (k := kd M (A M 245 t)) (s := s) k1.1 k1.2 (by omega) (by omega)
    have mk := m_isUnder hF hg (M := M2) (k := kd M (A M 245 t)) (s := s) k1.1 k1.2 (by omega) (by omega)
    by_cases u : und (kd M (A M 245 t)) s
    · rw [bI_t u] at ck mk
      refine ⟨ft M (A M 245 t), M1, M2, up _ ?_, ?_, inv⟩
      · refine s_City_takeThing hF hg ?_
        simp (config := { maxSteps := 1000000 }) (disch := (first | omega | decide | assumption)) only [ltm_s, ok_n, rd_i, rd_j, fd_i, fd_j, wr_i, wr_j, fw_i, fw_j, ci_s, cj_s, cv_s, dv_n, dw_n, rt_1, rt_b, rt_20, rt_21, okb_0, okb_1, okb_b, nar_0, nar_1, nar_b, i_0, i_1, j_0, j_1, i_lit, j_lit, i_n, iI_add, iI_sub, iI_mul, iI_neg, jI_add, jI_sub, jI_mul, jI_neg, sh_1, an_1, xo_1, di_p, dj_p, i_64A, i_64, j_32, lq_ge, lq_lt, lq_le, lq_gt, lq_eq, i_lt, i_le, i_eq, j_eq, iI_A, jI_J, iI_b, iI_v, jI_v, ↓reduceIte, ite_true, ite_false, Int.reduceEq, Int.reduceLT, Int.reduceLE, Int.reduceAdd, Int.reduceSub, Int.reduceMul, Int.reduceNeg, not_true_eq_false, not_false_eq_true, p6, p7, p8, g14, g15, y, x5, x6, ck]
      · refine s_Model_taken hF hg ?_
        simp (config := { maxSteps := 1000000 }) (disch := (first | omega | decide | assumption)) only [ltm_s, ok_n, rd_i, rd_j, fd_i, fd_j, wr_i, wr_j, fw_i, fw_j, ci_s, cj_s, cv_s, dv_n, dw_n, rt_1, rt_b, rt_20, rt_21, okb_0, okb_1, okb_b, nar_0, nar_1, nar_b, i_0, i_1, j_0, j_1, i_lit, j_lit, i_n, iI_add, iI_sub, iI_mul, iI_neg, jI_add, jI_sub, jI_mul, jI_neg, sh_1, an_1, xo_1, di_p, dj_p, i_64A, i_64, j_32, lq_ge, lq_lt, lq_le, lq_gt, lq_eq, i_lt, i_le, i_eq, j_eq, iI_A, jI_J, iI_b, iI_v, jI_v, ↓reduceIte, ite_true, ite_false, Int.reduceEq, Int.reduceLT, Int.reduceLE, Int.reduceAdd, Int.reduceSub, Int.reduceMul, Int.reduceNeg, not_true_eq_false, not_false_eq_true, ms, f34, w2, f31, mm, p8, n5, g244, g245, y, x223, x226, mk]
    · rw [bI_f u] at ck mk
      refine ⟨-13, M1, M2, up _ ?_, ?_, inv⟩
      · refine s_City_takeThing hF hg ?_
        simp (config := { maxSteps := 1000000 }) (disch := (first | omega | decide | assumption)) only [ltm_s, ok_n, rd_i, rd_j, fd_i, fd_j, wr_i, wr_j, fw_i, fw_j, ci_s, cj_s, cv_s, dv_n, dw_n, rt_1, rt_b, rt_20, rt_21, okb_0, okb_1, okb_b, nar_0, nar_1, nar_b, i_0, i_1, j_0, j_1, i_lit, j_lit, i_n, iI_add, iI_sub, iI_mul, iI_neg, jI_add, jI_sub, jI_mul, jI_neg, sh_1, an_1, xo_1, di_p, dj_p, i_64A, i_64, j_32, lq_ge, lq_lt, lq_le, lq_gt, lq_eq, i_lt, i_le, i_eq, j_eq, iI_A, jI_J, iI_b, iI_v, jI_v, ↓reduceIte, ite_true, ite_false, Int.reduceEq, Int.reduceLT, Int.reduceLE, Int.reduceAdd, Int.reduceSub, Int.reduceMul, Int.reduceNeg, not_true_eq_false, not_false_eq_true, p6, p7, p8, g14, g15, y, x5, x6, ck]
      · refine s_Model_taken hF hg ?_
        simp (config := { maxSteps := 1000000 }) (disch := (first | omega | decide | assumption)) only [ltm_s, ok_n, rd_i, rd_j, fd_i, fd_j, wr_i, wr_j, fw_i, fw_j, ci_s, cj_s, cv_s, dv_n, dw_n, rt_1, rt_b, rt_20, rt_21, okb_0, okb_1, okb_b, nar_0, nar_1, nar_b, i_0, i_1, j_0, j_1, i_lit, j_lit, i_n, iI_add, iI_sub, iI_mul, iI_neg, jI_add, jI_sub, jI_mul, jI_neg, sh_1, an_1, xo_1, di_p, dj_p, i_64A, i_64, j_32, lq_ge, lq_lt, lq_le, lq_gt, lq_eq, i_lt, i_le, i_eq, j_eq, iI_A, jI_J, iI_b, iI_v, jI_v, ↓reduceIte, ite_true, ite_false, Int.reduceEq, Int.reduceLT, Int.reduceLE, Int.reduceAdd, Int.reduceSub, Int.reduceMul, Int.reduceNeg, not_true_eq_false, not_false_eq_true, ms, f34, w2, f31, mm, p8, n5, g244, g245, y, x223, x226, mk]
  · refine ⟨-13, M1, M2, up _ ?_, ?_, inv⟩
    · refine s_City_takeThing hF hg ?_
      simp (config := { maxSteps := 1000000 }) (disch := (first | omega | decide | assumption)) only [ltm_s, ok_n, rd_i, rd_j, fd_i, fd_j, wr_i, wr_j, fw_i, fw_j, ci_s, cj_s, cv_s, dv_n, dw_n, rt_1, rt_b, rt_20, rt_21, okb_0, okb_1, okb_b, nar_0, nar_1, nar_b, i_0, i_1, j_0, j_1, i_lit, j_lit, i_n, iI_add, iI_sub, iI_mul, iI_neg, jI_add, jI_sub, jI_mul, jI_neg, sh_1, an_1, xo_1, di_p, dj_p, i_64A, i_64, j_32, lq_ge, lq_lt, lq_le, lq_gt, lq_eq, i_lt, i_le, i_eq, j_eq, iI_A, jI_J, iI_b, iI_v, jI_v, ↓reduceIte, ite_true, ite_false, Int.reduceEq, Int.reduceLT, Int.reduceLE, Int.reduceAdd, Int.reduceSub, Int.reduceMul, Int.reduceNeg, not_true_eq_false, not_false_eq_true, p6, p7, p8, g14, y]
    · refine s_Model_taken hF hg ?_
      simp (config := { maxSteps := 1000000 }) (disch := (first | omega | decide | assumption)) only [ltm_s, ok_n, rd_i, rd_j, fd_i, fd_j, wr_i, wr_j, fw_i, fw_j, ci_s, cj_s, cv_s, dv_n, dw_n, rt_1, rt_b, rt_20, rt_21, okb_0, okb_1, okb_b, nar_0, nar_1, nar_b, i_0, i_1, j_0, j_1, i_lit, j_lit, i_n, iI_add, iI_sub, iI_mul, iI_neg, jI_add, jI_sub, jI_mul, jI_neg, sh_1, an_1, xo_1, di_p, dj_p, i_64A, i_64, j_32, lq_ge, lq_lt, lq_le, lq_gt, lq_eq, i_lt, i_le, i_eq, j_eq, iI_A, jI_J, iI_b, iI_v, jI_v, ↓reduceIte, ite_true, ite_false, Int.reduceEq, Int.reduceLT, Int.reduceLE, Int.reduceAdd, Int.reduceSub, Int.reduceMul, Int.reduceNeg, not_true_eq_false, not_false_eq_true, ms, f34, w2, f31, mm, p8, n5, g244, y]
theorem b_ban (hF : F = am_F T0 g) (hg : GG g) (hI : Inv M) {e f h d : Int} (e1 : -2147483648 ≤ e) (e2 : e < 2147483648) (f1 : -2147483648 ≤ f) (f2 : f < 2147483648) (g1 : -2147483648 ≤ h) (g2 : h < 2147483648) (d1 : -2147483648 ≤ d) (d2 : d < 2147483648) :
    ∃ (r : Int) (M1 M2 : am_M), F 199 0 [.ref 0, .int (iI e), .int (iI f), .int (iI h), .int (iI d)] [] M = some (some (.int (iI r)), M1) ∧ F 179 0 [.ref 219, .int (iI e), .int (iI f), .int (iI h), .int (iI d)] [] M1 = some (some (.int (iI r)), M2) ∧ Inv M2 := by
  have hI' := hI
  obtain ⟨h1, h2, h3, h4, h5, h6, h7, h8, h9, h10, h11, h12, h13, h14, h15, h16, h17, h18, h19, hm, ht⟩ := hI
  have hn := h2.1
  have hA := Ag.refl M
  have h80 := h8.2
  have h81 := h8.1
  obtain ⟨a1, a2, a3⟩ := h7
  have le := m_isLeg hF hg hA h2 e1 e2
  have lf := m_isLeg hF hg hA h2 f1 f2
  have ne := c_noLeg hF hg hA h2 e1 e2
  have nf := c_noLeg hF hg hA h2 f1 f2
  by_cases q1 : e < 0 ∨ 2 * nW M - 1 < e
  · rw [bI_t q1] at ne
    rw [bI_f (by omega)] at le
    refine ⟨-1, M, M, ?_, ?_, hI'⟩
    · refine s_RunSayer_ban hF hg ?_
      simp (config := { maxSteps := 1000000 }) (disch := (first | omega | decide | assumption)) only [ltm_s, ok_n, rd_i, rd_j, fd_i, fd_j, wr_i, wr_j, fw_i, fw_j, ci_s, cj_s, cv_s, dv_n, dw_n, rt_1, rt_b, rt_20, rt_21, okb_0, okb_1, okb_b, nar_0, nar_1, nar_b, i_0, i_1, j_0, j_1, i_lit, j_lit, i_n, iI_add, iI_sub, iI_mul, iI_neg, jI_add, jI_sub, jI_mul, jI_neg, sh_1, an_1, xo_1, di_p, dj_p, i_64A, i_64, j_32, lq_ge, lq_lt, lq_le, lq_gt, lq_eq, i_lt, i_le, i_eq, j_eq, iI_A, jI_J, iI_b, iI_v, jI_v, ↓reduceIte, ite_true, ite_false, Int.reduceEq, Int.reduceLT, Int.reduceLE, Int.reduceAdd, Int.reduceSub, Int.reduceMul, Int.reduceNeg, not_true_eq_false, not_false_eq_true, ne]
    · refine s_Model_ban hF hg ?_
      refine ci_in le ?_
      rw [if_pos (show iI 0 = 0 from rfl)]
      rfl
  rw [bI_f q1] at ne
  rw [bI_t (by omega)] at le
  by_cases q2 : f < 0 ∨ 2 * nW M - 1 < f
  · rw [bI_t q2] at nf
    rw [bI_f (by omega)] at lf
    refine ⟨-1, M, M, ?_, ?_, hI'⟩
    · refine s_RunSayer_ban hF hg ?_
      simp (config := { maxSteps := 1000000 }) (disch := (first | omega | decide | assumption)) only [ltm_s, ok_n, rd_i, rd_j, fd_i, fd_j, wr_i, wr_j, fw_i, fw_j, ci_s, cj_s, cv_s, dv_n, dw_n, rt_1, rt_b, rt_20, rt_21, okb_0, okb_1, okb_b, nar_0, nar_1, nar_b, i_0, i_1, j_0, j_1, i_lit, j_lit, i_n, iI_add, iI_sub, iI_mul, iI_neg, jI_add, jI_sub, jI_mul, jI_neg, sh_1, an_1, xo_1, di_p, dj_p, i_64A, i_64, j_32, lq_ge, lq_lt, lq_le, lq_gt, lq_eq, i_lt, i_le, i_eq, j_eq, iI_A, jI_J, iI_b, iI_v, jI_v, ↓reduceIte, ite_true, ite_false, Int.reduceEq, Int.reduceLT, Int.reduceLE, Int.reduceAdd, Int.reduceSub, Int.reduceMul, Int.reduceNeg, not_true_eq_false, not_false_eq_true, ne, nf]
    · refine s_Model_ban hF hg ?_
      refine ci_in (le) ?_
      rw [if_neg (show ¬ iI 1 = 0 by decide)]
      refine ci_in lf ?_
      rw [if_pos (show iI 0 = 0 from rfl)]
      rfl
  rw [bI_f q2] at nf
  rw [bI_t (by omega)] at lf
  by_cases q3 : h < 0
  · refine ⟨-2, M, M, ?_, ?_, hI'⟩
    · refine s_RunSayer_ban hF hg ?_
      rw [show (100 : Int32) = iI 100 from rfl, dh_n g1 q3]
      by_cases q4 : h ≤ -100
      · obtain ⟨x, hx⟩ : ∃ x : Int, x = -((-h) / 100) := ⟨_, rfl⟩
        rw [← hx]
        have x1 : x < 0 := by omega
        have x2 : -2147483648 ≤ x := by omega
        clear hx
        have nh := c_noHour hF hg (M := M) (v := x) (by omega) (by omega)
        rw [bI_t (Or.inl x1)] at nh
        refine ci_in ne ?_
        rw [if_pos (show iI 0 = 0 from rfl)]
        refine ci_in nf ?_
        rw [if_pos (show iI 0 = 0 from rfl), dv_n (by omega) (by omega) (by omega), dv_n (by omega) (by omega) (by omega)]
        refine ci_in nh ?_
        rw [if_neg (show ¬ iI 1 = 0 by decide)]
        rfl
      · have e0 : -((-h) / 100) = 0 := by omega
        rw [e0]
        have nh := c_noHour hF hg (M := M) (v := 0) (by omega) (by omega)
        rw [bI_f (by omega)] at nh
        have co := c_outside hF hg (M := M) (v := h - 0 * 100) (l := 0 + 1) (h := 24) (by omega) (by omega) (by omega) (by omega) (by omega) (by omega)
        rw [bI_t (by omega)] at co
        refine ci_in ne ?_
        rw [if_pos (show iI 0 = 0 from rfl)]
        refine ci_in nf ?_
        rw [if_pos (show iI 0 = 0 from rfl), dv_n (by omega) (by omega) (by omega), dv_n (by omega) (by omega) (by omega)]
        refine ci_in nh ?_
        rw [if_pos (show iI 0 = 0 from rfl), iI_mul, iI_sub, show (1 : Int32) = iI 1 from rfl, iI_add]
        refine ci_in co ?_
        rw [if_neg (show ¬ iI 1 = 0 by decide)]
        rfl
    · refine s_Model_ban hF hg ?_
      refine ci_in (le) ?_
      rw [if_neg (show ¬ iI 1 = 0 by decide)]
      refine ci_in (lf) ?_
      rw [if_neg (show ¬ iI 1 = 0 by decide)]
      simp (config := { maxSteps := 1000000 }) (disch := (first | omega | decide | assumption)) only [ltm_s, ok_n, rd_i, rd_j, fd_i, fd_j, wr_i, wr_j, fw_i, fw_j, ci_s, cj_s, cv_s, dv_n, dw_n, rt_1, rt_b, rt_20, rt_21, okb_0, okb_1, okb_b, nar_0, nar_1, nar_b, i_0, i_1, j_0, j_1, i_lit, j_lit, i_n, iI_add, iI_sub, iI_mul, iI_neg, jI_add, jI_sub, jI_mul, jI_neg, sh_1, an_1, xo_1, di_p, dj_p, i_64A, i_64, j_32, lq_ge, lq_lt, lq_le, lq_gt, lq_eq, i_lt, i_le, i_eq, j_eq, iI_A, jI_J, iI_b, iI_v, jI_v, ↓reduceIte, ite_true, ite_false, Int.reduceEq, Int.reduceLT, Int.reduceLE, Int.reduceAdd, Int.reduceSub, Int.reduceMul, Int.reduceNeg, not_true_eq_false, not_false_eq_true, q3]
  have hd0 : 0 ≤ h := by omega
  by_cases q5 : h - h / 100 * 100 < h / 100 + 1 ∨ 24 < h - h / 100 * 100
  · refine ⟨-2, M, M, ?_, ?_, hI'⟩
    · refine s_RunSayer_ban hF hg ?_
      have nh := c_noHour hF hg (M := M) (v := h / 100) (by omega) (by omega)
      have co := c_outside hF hg (M := M) (v := h - h / 100 * 100) (l := h / 100 + 1) (h := 24) (by omega) (by omega) (by omega) (by omega) (by omega) (by omega)
      rw [bI_t q5] at co
      by_cases q6 : h / 100 < 0 ∨ 23 < h / 100
      · rw [bI_t q6] at nh
        simp (config := { maxSteps := 1000000 }) (disch := (first | omega | decide | assumption)) only [ltm_s, ok_n, rd_i, rd_j, fd_i, fd_j, wr_i, wr_j, fw_i, fw_j, ci_s, cj_s, cv_s, dv_n, dw_n, rt_1, rt_b, rt_20, rt_21, okb_0, okb_1, okb_b, nar_0, nar_1, nar_b, i_0, i_1, j_0, j_1, i_lit, j_lit, i_n, iI_add, iI_sub, iI_mul, iI_neg, jI_add, jI_sub, jI_mul, jI_neg, sh_1, an_1, xo_1, di_p, dj_p, i_64A, i_64, j_32, lq_ge, lq_lt, lq_le, lq_gt, lq_eq, i_lt, i_le, i_eq, j_eq, iI_A, jI_J, iI_b, iI_v, jI_v, ↓reduceIte, ite_true, ite_false, Int.reduceEq, Int.reduceLT, Int.reduceLE, Int.reduceAdd, Int.reduceSub, Int.reduceMul, Int.reduceNeg, not_true_eq_false, not_false_eq_true, ne, nf, nh]
      · rw [bI_f q6] at nh
        simp (config := { maxSteps := 1000000 }) (disch := (first | omega | decide | assumption)) only [ltm_s, ok_n, rd_i, rd_j, fd_i, fd_j, wr_i, wr_j, fw_i, fw_j, ci_s, cj_s, cv_s, dv_n, dw_n, rt_1, rt_b, rt_20, rt_21, okb_0, okb_1, okb_b, nar_0, nar_1, nar_b, i_0, i_1, j_0, j_1, i_lit, j_lit, i_n, iI_add, iI_sub, iI_mul, iI_neg, jI_add, jI_sub, jI_mul, jI_neg, sh_1, an_1, xo_1, di_p, dj_p, i_64A, i_64, j_32, lq_ge, lq_lt, lq_le, lq_gt, lq_eq, i_lt, i_le, i_eq, j_eq, iI_A, jI_J, iI_b, iI_v, jI_v, ↓reduceIte, ite_true, ite_false, Int.reduceEq, Int.reduceLT, Int.reduceLE, Int.reduceAdd, Int.reduceSub, Int.reduceMul, Int.reduceNeg, not_true_eq_false, not_false_eq_true, ne, nf, nh, co]
    · refine s_Model_ban hF hg ?_
      by_cases q6 : h - h / 100 * 100 ≤ h / 100
      · refine ci_in (le) ?_
        rw [if_neg (show ¬ iI 1 = 0 by decide)]
        refine ci_in (lf) ?_
        rw [if_neg (show ¬ iI 1 = 0 by decide)]
        simp (config := { maxSteps := 1000000 }) (disch := (first | omega | decide | assumption)) only [ltm_s, ok_n, rd_i, rd_j, fd_i, fd_j, wr_i, wr_j, fw_i, fw_j, ci_s, cj_s, cv_s, dv_n, dw_n, rt_1, rt_b, rt_20, rt_21, okb_0, okb_1, okb_b, nar_0, nar_1, nar_b, i_0, i_1, j_0, j_1, i_lit, j_lit, i_n, iI_add, iI_sub, iI_mul, iI_neg, jI_add, jI_sub, jI_mul, jI_neg, sh_1, an_1, xo_1, di_p, dj_p, i_64A, i_64, j_32, lq_ge, lq_lt, lq_le, lq_gt, lq_eq, i_lt, i_le, i_eq, j_eq, iI_A, jI_J, iI_b, iI_v, jI_v, ↓reduceIte, ite_true, ite_false, Int.reduceEq, Int.reduceLT, Int.reduceLE, Int.reduceAdd, Int.reduceSub, Int.reduceMul, Int.reduceNeg, not_true_eq_false, not_false_eq_true, q3, q6]
      · have q7 : 24 < h - h / 100 * 100 := by omega
        refine ci_in (le) ?_
        rw [if_neg (show ¬ iI 1 = 0 by decide)]
        refine ci_in (lf) ?_
        rw [if_neg (show ¬ iI 1 = 0 by decide)]
        simp (config := { maxSteps := 1000000 }) (disch := (first | omega | decide | assumption)) only [ltm_s, ok_n, rd_i, rd_j, fd_i, fd_j, wr_i, wr_j, fw_i, fw_j, ci_s, cj_s, cv_s, dv_n, dw_n, rt_1, rt_b, rt_20, rt_21, okb_0, okb_1, okb_b, nar_0, nar_1, nar_b, i_0, i_1, j_0, j_1, i_lit, j_lit, i_n, iI_add, iI_sub, iI_mul, iI_neg, jI_add, jI_sub, jI_mul, jI_neg, sh_1, an_1, xo_1, di_p, dj_p, i_64A, i_64, j_32, lq_ge, lq_lt, lq_le, lq_gt, lq_eq, i_lt, i_le, i_eq, j_eq, iI_A, jI_J, iI_b, iI_v, jI_v, ↓reduceIte, ite_true, ite_false, Int.reduceEq, Int.reduceLT, Int.reduceLE, Int.reduceAdd, Int.reduceSub, Int.reduceMul, Int.reduceNeg, not_true_eq_false, not_false_eq_true, q3, q6, q7]
  have q6 : ¬ (h / 100 < 0 ∨ 23 < h / 100) := by omega
  have q7 : ¬ h - h / 100 * 100 ≤ h / 100 := by omega
  have q8 : ¬ 24 < h - h / 100 * 100 := by omega
  have nh := c_noHour hF hg (M := M) (v := h / 100) (by omega) (by omega)
  rw [bI_f q6] at nh
  have co := c_outside hF hg (M := M) (v := h - h / 100 * 100) (l := h / 100 + 1) (h := 24) (by omega) (by omega) (by omega) (by omega) (by omega) (by omega)
  rw [bI_f q5] at co
  have cd := c_outside hF hg (M := M) (v := d) (l := 1) (h := 127) d1 d2 (by omega) (by omega) (by omega) (by omega)
  have md : ∀ N : am_M, F 53 0 [.int (iI d), .int (iI 1), .int (iI 127)] [] N = some (some (.int (iI (bI (1 ≤ d ∧ d ≤ 127)))), N) := fun N => m_inn hF hg d1 d2 (by omega) (by omega) (by omega) (by omega)
  by_cases q9 : d < 1 ∨ 127 < d
  · rw [bI_t q9] at cd
    rw [bI_f (by omega)] at md
    refine ⟨-2, M, M, ?_, ?_, hI'⟩
    · refine s_RunSayer_ban hF hg ?_
      simp (config := { maxSteps := 1000000 }) (disch := (first | omega | decide | assumption)) only [ltm_s, ok_n, rd_i, rd_j, fd_i, fd_j, wr_i, wr_j, fw_i, fw_j, ci_s, cj_s, cv_s, dv_n, dw_n, rt_1, rt_b, rt_20, rt_21, okb_0, okb_1, okb_b, nar_0, nar_1, nar_b, i_0, i_1, j_0, j_1, i_lit, j_lit, i_n, iI_add, iI_sub, iI_mul, iI_neg, jI_add, jI_sub, jI_mul, jI_neg, sh_1, an_1, xo_1, di_p, dj_p, i_64A, i_64, j_32, lq_ge, lq_lt, lq_le, lq_gt, lq_eq, i_lt, i_le, i_eq, j_eq, iI_A, jI_J, iI_b, iI_v, jI_v, ↓reduceIte, ite_true, ite_false, Int.reduceEq, Int.reduceLT, Int.reduceLE, Int.reduceAdd, Int.reduceSub, Int.reduceMul, Int.reduceNeg, not_true_eq_false, not_false_eq_true, ne, nf, nh, co, cd]
    · refine s_Model_ban hF hg ?_
      refine ci_in (le) ?_
      rw [if_neg (show ¬ iI 1 = 0 by decide)]
      refine ci_in (lf) ?_
      rw [if_neg (show ¬ iI 1 = 0 by decide)]
      simp (config := { maxSteps := 1000000 }) (disch := (first | omega | decide | assumption)) only [ltm_s, ok_n, rd_i, rd_j, fd_i, fd_j, wr_i, wr_j, fw_i, fw_j, ci_s, cj_s, cv_s, dv_n, dw_n, rt_1, rt_b, rt_20, rt_21, okb_0, okb_1, okb_b, nar_0, nar_1, nar_b, i_0, i_1, j_0, j_1, i_lit, j_lit, i_n, iI_add, iI_sub, iI_mul, iI_neg, jI_add, jI_sub, jI_mul, jI_neg, sh_1, an_1, xo_1, di_p, dj_p, i_64A, i_64, j_32, lq_ge, lq_lt, lq_le, lq_gt, lq_eq, i_lt, i_le, i_eq, j_eq, iI_A, jI_J, iI_b, iI_v, jI_v, ↓reduceIte, ite_true, ite_false, Int.reduceEq, Int.reduceLT, Int.reduceLE, Int.reduceAdd, Int.reduceSub, Int.reduceMul, Int.reduceNeg, not_true_eq_false, not_false_eq_true, q3, q7, q8, md]
  rw [bI_f q9] at cd
  rw [bI_t (by omega)] at md
  have cf := c_follows hF hg hA h1 h2 (e := e) (f := f) (by omega) (by omega) (by omega) (by omega)
  have mf := m_follows hF hg hA h1 h2 (e := e) (f := f) (by omega) (by omega) (by omega) (by omega)
  by_cases q10 : fol M e f
  · rw [bI_t q10] at cf mf
    by_cases q11 : A M 219 24 = 40
    · refine ⟨-4, M, M, ?_, ?_, hI'⟩
      · refine s_RunSayer_ban hF hg ?_
        have ad : F 30 0 [.ref 18, .int (iI e), .int (iI f), .int (iI (h / 100)), .int (iI (h - h / 100 * 100)), .int (iI d)] [] M = some (some (.int (iI (-4))), M) := by
          refine s_Ledger_addBan hF hg ?_
          simp (config := { maxSteps := 1000000 }) (disch := (first | omega | decide | assumption)) only [ltm_s, ok_n, rd_i, rd_j, fd_i, fd_j, wr_i, wr_j, fw_i, fw_j, ci_s, cj_s, cv_s, dv_n, dw_n, rt_1, rt_b, rt_20, rt_21, okb_0, okb_1, okb_b, nar_0, nar_1, nar_b, i_0, i_1, j_0, j_1, i_lit, j_lit, i_n, iI_add, iI_sub, iI_mul, iI_neg, jI_add, jI_sub, jI_mul, jI_neg, sh_1, an_1, xo_1, di_p, dj_p, i_64A, i_64, j_32, lq_ge, lq_lt, lq_le, lq_gt, lq_eq, i_lt, i_le, i_eq, j_eq, iI_A, jI_J, iI_b, iI_v, jI_v, ↓reduceIte, ite_true, ite_false, Int.reduceEq, Int.reduceLT, Int.reduceLE, Int.reduceAdd, Int.reduceSub, Int.reduceMul, Int.reduceNeg, not_true_eq_false, not_false_eq_true, a2, q11]
        simp (config := { maxSteps := 1000000 }) (disch := (first | omega | decide | assumption)) only [ltm_s, ok_n, rd_i, rd_j, fd_i, fd_j, wr_i, wr_j, fw_i, fw_j, ci_s, cj_s, cv_s, dv_n, dw_n, rt_1, rt_b, rt_20, rt_21, okb_0, okb_1, okb_b, nar_0, nar_1, nar_b, i_0, i_1, j_0, j_1, i_lit, j_lit, i_n, iI_add, iI_sub, iI_mul, iI_neg, jI_add, jI_sub, jI_mul, jI_neg, sh_1, an_1, xo_1, di_p, dj_p, i_64A, i_64, j_32, lq_ge, lq_lt, lq_le, lq_gt, lq_eq, i_lt, i_le, i_eq, j_eq, iI_A, jI_J, iI_b, iI_v, jI_v, ↓reduceIte, ite_true, ite_false, Int.reduceEq, Int.reduceLT, Int.reduceLE, Int.reduceAdd, Int.reduceSub, Int.reduceMul, Int.reduceNeg, not_true_eq_false, not_false_eq_true, ne, nf, nh, co, cd, cf, ad]
      · refine s_Model_ban hF hg ?_
        refine ci_in (le) ?_
        rw [if_neg (show ¬ iI 1 = 0 by decide)]
        refine ci_in (lf) ?_
        rw [if_neg (show ¬ iI 1 = 0 by decide)]
        simp (config := { maxSteps := 1000000 }) (disch := (first | omega | decide | assumption)) only [ltm_s, ok_n, rd_i, rd_j, fd_i, fd_j, wr_i, wr_j, fw_i, fw_j, ci_s, cj_s, cv_s, dv_n, dw_n, rt_1, rt_b, rt_20, rt_21, okb_0, okb_1, okb_b, nar_0, nar_1, nar_b, i_0, i_1, j_0, j_1, i_lit, j_lit, i_n, iI_add, iI_sub, iI_mul, iI_neg, jI_add, jI_sub, jI_mul, jI_neg, sh_1, an_1, xo_1, di_p, dj_p, i_64A, i_64, j_32, lq_ge, lq_lt, lq_le, lq_gt, lq_eq, i_lt, i_le, i_eq, j_eq, iI_A, jI_J, iI_b, iI_v, jI_v, ↓reduceIte, ite_true, ite_false, Int.reduceEq, Int.reduceLT, Int.reduceLE, Int.reduceAdd, Int.reduceSub, Int.reduceMul, Int.reduceNeg, not_true_eq_false, not_false_eq_true, q3, q7, q8, md, mf, q11]
    have q12 : A M 219 24 < 40 := by omega
    obtain ⟨M1, e1_⟩ : ∃ x : am_M, x = W_ (W_ (W_ (W_ (W_ (W_ (W_ M 26 (A M 219 24) e) 27 (A M 219 24) f) 28 (A M 219 24) (h / 100)) 29 (A M 219 24) (h - h / 100 * 100)) 30 (A M 219 24) d) 31 (A M 219 24) (toD M)) 18 16 (A M 219 24 + 1) := ⟨_, rfl⟩
    obtain ⟨M2, e2_⟩ : ∃ x : am_M, x = W_ (W_ (W_ (W_ (W_ (W_ (W_ (W_ (W_ (W_ (W_ (W_ (W_ (W_ M 26 (A M 219 24) e) 27 (A M 219 24) f) 28 (A M 219 24) (h / 100)) 29 (A M 219 24) (h - h / 100 * 100)) 30 (A M 219 24) d) 31 (A M 219 24) (toD M)) 18 16 (A M 219 24 + 1)) 238 (A M 219 24) e) 239 (A M 219 24) f) 240 (A M 219 24) (h / 100)) 241 (A M 219 24) (h - h / 100 * 100)) 242 (A M 219 24) d) 243 (A M 219 24) (toD M)) 219 24 (A M 219 24 + 1) := ⟨_, rfl⟩
    have k1 : Ch [26, 27, 28, 29, 30, 31] [(18, 16)] M M1 := by
      rw [e1_]; exact (((((((Ch.refl.wm (Or.inl (by decide))).wm (Or.inl (by decide))).wm (Or.inl (by decide))).wm (Or.inl (by decide))).wm (Or.inl (by decide))).wm (Or.inl (by decide))).wm (Or.inr (by decide)))
    have c : Ch [26, 27, 28, 29, 30, 31, 238, 239, 240, 241, 242, 243] [(18, 16), (219, 24)] M M2 := by
      rw [e2_]; exact ((((((((((((((Ch.refl.wm (Or.inl (by decide))).wm (Or.inl (by decide))).wm (Or.inl (by decide))).wm (Or.inl (by decide))).wm (Or.inl (by decide))).wm (Or.inl (by decide))).wm (Or.inr (by decide))).wm (Or.inl (by decide))).wm (Or.inl (by decide))).wm (Or.inl (by decide))).wm (Or.inl (by decide))).wm (Or.inl (by decide))).wm (Or.inl (by decide))).wm (Or.inr (by decide)))
    have ad : F 30 0 [.ref 18, .int (iI e), .int (iI f), .int (iI (h / 100)), .int (iI (h - h / 100 * 100)), .int (iI d)] [] M = some (some (.int (iI (A M 219 24))), M1) := by
      rw [e1_]
      refine s_Ledger_addBan hF hg ?_
      simp (config := { maxSteps := 1000000 }) (disch := (first | omega | decide | assumption)) only [ltm_s, ok_n, rd_i, rd_j, fd_i, fd_j, wr_i, wr_j, fw_i, fw_j, ci_s, cj_s, cv_s, dv_n, dw_n, rt_1, rt_b, rt_20, rt_21, okb_0, okb_1, okb_b, nar_0, nar_1, nar_b, i_0, i_1, j_0, j_1, i_lit, j_lit, i_n, iI_add, iI_sub, iI_mul, iI_neg, jI_add, jI_sub, jI_mul, jI_neg, sh_1, an_1, xo_1, di_p, dj_p, i_64A, i_64, j_32, lq_ge, lq_lt, lq_le, lq_gt, lq_eq, i_lt, i_le, i_eq, j_eq, iI_A, jI_J, iI_b, iI_v, jI_v, ↓reduceIte, ite_true, ite_false, Int.reduceEq, Int.reduceLT, Int.reduceLE, Int.reduceAdd, Int.reduceSub, Int.reduceMul, Int.reduceNeg, not_true_eq_false, not_false_eq_true, A_Wn, A_WA, A_Wb, A_Ws, A_Wo, A_X, J_W, J_Xn, J_XJ, J_Xs, J_Xo, a2, h80, q12]
      rw [Int.add_sub_cancel]
    refine ⟨A M 219 24, M1, M2, ?_, ?_, ?_⟩
    · refine s_RunSayer_ban hF hg ?_
      simp (config := { maxSteps := 1000000 }) (disch := (first | omega | decide | assumption)) only [ltm_s, ok_n, rd_i, rd_j, fd_i, fd_j, wr_i, wr_j, fw_i, fw_j, ci_s, cj_s, cv_s, dv_n, dw_n, rt_1, rt_b, rt_20, rt_21, okb_0, okb_1, okb_b, nar_0, nar_1, nar_b, i_0, i_1, j_0, j_1, i_lit, j_lit, i_n, iI_add, iI_sub, iI_mul, iI_neg, jI_add, jI_sub, jI_mul, jI_neg, sh_1, an_1, xo_1, di_p, dj_p, i_64A, i_64, j_32, lq_ge, lq_lt, lq_le, lq_gt, lq_eq, i_lt, i_le, i_eq, j_eq, iI_A, jI_J, iI_b, iI_v, jI_v, ↓reduceIte, ite_true, ite_false, Int.reduceEq, Int.reduceLT, Int.reduceLE, Int.reduceAdd, Int.reduceSub, Int.reduceMul, Int.reduceNeg, not_true_eq_false, not_false_eq_true, ne, nf, nh, co, cd, cf, ad]
    · have y1 := k1.i1 rfl h1
      have y2 := k1.i2 rfl h2
      have y4 : nW M1 = nW M := k1.f (a := 219) (z := 4) rfl
      have le' := m_isLeg hF hg (Ag.refl M1) y2 e1 e2
      have lf' := m_isLeg hF hg (Ag.refl M1) y2 f1 f2
      rw [bI_t (by omega)] at le' lf'
      have mf' := m_follows hF hg (Ag.refl M1) y1 y2 (e := e) (f := f) (by omega) (by omega) (by omega) (by omega)
      have fo : fol M1 e f := k1.tr (I := fun N => fol N e f) [224, 225] [] (fun _ => rfl) rfl q10
      rw [bI_t fo] at mf'
      have t14 : A M1 219 14 = toD M := k1.f (a := 219) (z := 14) rfl
      have t24 : A M1 219 24 = A M 219 24 := k1.f (a := 219) (z := 24) rfl
      rw [e2_, ← e1_]
      refine s_Model_ban hF hg ?_
      refine ci_in (le') ?_
      rw [if_neg (show ¬ iI 1 = 0 by decide)]
      refine ci_in (lf') ?_
      rw [if_neg (show ¬ iI 1 = 0 by decide)]
      simp (config := { maxSteps := 1000000 }) (disch := (first | omega | decide | assumption)) only [ltm_s, ok_n, rd_i, rd_j, fd_i, fd_j, wr_i, wr_j, fw_i, fw_j, ci_s, cj_s, cv_s, dv_n, dw_n, rt_1, rt_b, rt_20, rt_21, okb_0, okb_1, okb_b, nar_0, nar_1, nar_b, i_0, i_1, j_0, j_1, i_lit, j_lit, i_n, iI_add, iI_sub, iI_mul, iI_neg, jI_add, jI_sub, jI_mul, jI_neg, sh_1, an_1, xo_1, di_p, dj_p, i_64A, i_64, j_32, lq_ge, lq_lt, lq_le, lq_gt, lq_eq, i_lt, i_le, i_eq, j_eq, iI_A, jI_J, iI_b, iI_v, jI_v, ↓reduceIte, ite_true, ite_false, Int.reduceEq, Int.reduceLT, Int.reduceLE, Int.reduceAdd, Int.reduceSub, Int.reduceMul, Int.reduceNeg, not_true_eq_false, not_false_eq_true, A_Wn, A_WA, A_Wb, A_Ws, A_Wo, A_X, J_W, J_Xn, J_XJ, J_Xs, J_Xo, q3, q7, q8, md, mf', t14, t24, q11]
      rw [Int.add_sub_cancel]
    refine ⟨c.i1 rfl h1, c.i2 rfl h2, c.i3 rfl h3, c.i4 rfl h4, c.i5 rfl h5, c.i6 rfl h6, ?_, c.i8 rfl h8, c.i9 rfl h9, c.i10 rfl h10, c.i11 rfl h11, c.i12 rfl h12, c.i13 rfl h13, c.i14 rfl h14, c.i15 rfl h15, c.i16 rfl h16, c.i17 rfl h17, c.i18 rfl h18, c.i19 rfl h19, c.imk rfl hm, c.itd rfl ht⟩
    have r26 : ∀ i : Int, 0 ≤ i → ¬ i = (A M 219 24) → A M2 26 i = A M 26 i := fun i i0 i1 => by
      rw [e2_]; simp (config := { maxSteps := 1000000 }) (disch := (first | omega | decide | assumption)) only [ltm_s, ok_n, rd_i, rd_j, fd_i, fd_j, wr_i, wr_j, fw_i, fw_j, ci_s, cj_s, cv_s, dv_n, dw_n, rt_1, rt_b, rt_20, rt_21, okb_0, okb_1, okb_b, nar_0, nar_1, nar_b, i_0, i_1, j_0, j_1, i_lit, j_lit, i_n, iI_add, iI_sub, iI_mul, iI_neg, jI_add, jI_sub, jI_mul, jI_neg, sh_1, an_1, xo_1, di_p, dj_p, i_64A, i_64, j_32, lq_ge, lq_lt, lq_le, lq_gt, lq_eq, i_lt, i_le, i_eq, j_eq, iI_A, jI_J, iI_b, iI_v, jI_v, ↓reduceIte, ite_true, ite_false, Int.reduceEq, Int.reduceLT, Int.reduceLE, Int.reduceAdd, Int.reduceSub, Int.reduceMul, Int.reduceNeg, not_true_eq_false, not_false_eq_true, A_Wn, A_WA, A_Wb, A_Ws, A_Wo, A_X, J_W, J_Xn, J_XJ, J_Xs, J_Xo]
    have s26 : A M2 26 (A M 219 24) = e := by
      rw [e2_]; simp (config := { maxSteps := 1000000 }) (disch := (first | omega | decide | assumption)) only [ltm_s, ok_n, rd_i, rd_j, fd_i, fd_j, wr_i, wr_j, fw_i, fw_j, ci_s, cj_s, cv_s, dv_n, dw_n, rt_1, rt_b, rt_20, rt_21, okb_0, okb_1, okb_b, nar_0, nar_1, nar_b, i_0, i_1, j_0, j_1, i_lit, j_lit, i_n, iI_add, iI_sub, iI_mul, iI_neg, jI_add, jI_sub, jI_mul, jI_neg, sh_1, an_1, xo_1, di_p, dj_p, i_64A, i_64, j_32, lq_ge, lq_lt, lq_le, lq_gt, lq_eq, i_lt, i_le, i_eq, j_eq, iI_A, jI_J, iI_b, iI_v, jI_v, ↓reduceIte, ite_true, ite_false, Int.reduceEq, Int.reduceLT, Int.reduceLE, Int.reduceAdd, Int.reduceSub, Int.reduceMul, Int.reduceNeg, not_true_eq_false, not_false_eq_true, A_Wn, A_WA, A_Wb, A_Ws, A_Wo, A_X, J_W, J_Xn, J_XJ, J_Xs, J_Xo]
    have r27 : ∀ i : Int, 0 ≤ i → ¬ i = (A M 219 24) → A M2 27 i = A M 27 i := fun i i0 i1 => by
      rw [e2_]; simp (config := { maxSteps := 1000000 }) (disch := (first | omega | decide | assumption)) only [ltm_s, ok_n, rd_i, rd_j, fd_i, fd_j, wr_i, wr_j, fw_i, fw_j, ci_s, cj_s, cv_s, dv_n, dw_n, rt_1, rt_b, rt_20, rt_21, okb_0, okb_1, okb_b, nar_0, nar_1, nar_b, i_0, i_1, j_0, j_1, i_lit, j_lit, i_n, iI_add, iI_sub, iI_mul, iI_neg, jI_add, jI_sub, jI_mul, jI_neg, sh_1, an_1, xo_1, di_p, dj_p, i_64A, i_64, j_32, lq_ge, lq_lt, lq_le, lq_gt, lq_eq, i_lt, i_le, i_eq, j_eq, iI_A, jI_J, iI_b, iI_v, jI_v, ↓reduceIte, ite_true, ite_false, Int.reduceEq, Int.reduceLT, Int.reduceLE, Int.reduceAdd, Int.reduceSub, Int.reduceMul, Int.reduceNeg, not_true_eq_false, not_false_eq_true, A_Wn, A_WA, A_Wb, A_Ws, A_Wo, A_X, J_W, J_Xn, J_XJ, J_Xs, J_Xo]
    have s27 : A M2 27 (A M 219 24) = f := by
      rw [e2_]; simp (config := { maxSteps := 1000000 }) (disch := (first | omega | decide | assumption)) only [ltm_s, ok_n, rd_i, rd_j, fd_i, fd_j, wr_i, wr_j, fw_i, fw_j, ci_s, cj_s, cv_s, dv_n, dw_n, rt_1, rt_b, rt_20, rt_21, okb_0, okb_1, okb_b, nar_0, nar_1, nar_b, i_0, i_1, j_0, j_1, i_lit, j_lit, i_n, iI_add, iI_sub, iI_mul, iI_neg, jI_add, jI_sub, jI_mul, jI_neg, sh_1, an_1, xo_1, di_p, dj_p, i_64A, i_64, j_32, lq_ge, lq_lt, lq_le, lq_gt, lq_eq, i_lt, i_le, i_eq, j_eq, iI_A, jI_J, iI_b, iI_v, jI_v, ↓reduceIte, ite_true, ite_false, Int.reduceEq, Int.reduceLT, Int.reduceLE, Int.reduceAdd, Int.reduceSub, Int.reduceMul, Int.reduceNeg, not_true_eq_false, not_false_eq_true, A_Wn, A_WA, A_Wb, A_Ws, A_Wo, A_X, J_W, J_Xn, J_XJ, J_Xs, J_Xo]
    have r28 : ∀ i : Int, 0 ≤ i → ¬ i = (A M 219 24) → A M2 28 i = A M 28 i := fun i i0 i1 => by
      rw [e2_]; simp (config := { maxSteps := 1000000 }) (disch := (first | omega | decide | assumption)) only [ltm_s, ok_n, rd_i, rd_j, fd_i, fd_j, wr_i, wr_j, fw_i, fw_j, ci_s, cj_s, cv_s, dv_n, dw_n, rt_1, rt_b, rt_20, rt_21, okb_0, okb_1, okb_b, nar_0, nar_1, nar_b, i_0, i_1, j_0, j_1, i_lit, j_lit, i_n, iI_add, iI_sub, iI_mul, iI_neg, jI_add, jI_sub, jI_mul, jI_neg, sh_1, an_1, xo_1, di_p, dj_p, i_64A, i_64, j_32, lq_ge, lq_lt, lq_le, lq_gt, lq_eq, i_lt, i_le, i_eq, j_eq, iI_A, jI_J, iI_b, iI_v, jI_v, ↓reduceIte, ite_true, ite_false, Int.reduceEq, Int.reduceLT, Int.reduceLE, Int.reduceAdd, Int.reduceSub, Int.reduceMul, Int.reduceNeg, not_true_eq_false, not_false_eq_true, A_Wn, A_WA, A_Wb, A_Ws, A_Wo, A_X, J_W, J_Xn, J_XJ, J_Xs, J_Xo]
    have s28 : A M2 28 (A M 219 24) = h / 100 := by
      rw [e2_]; simp (config := { maxSteps := 1000000 }) (disch := (first | omega | decide | assumption)) only [ltm_s, ok_n, rd_i, rd_j, fd_i, fd_j, wr_i, wr_j, fw_i, fw_j, ci_s, cj_s, cv_s, dv_n, dw_n, rt_1, rt_b, rt_20, rt_21, okb_0, okb_1, okb_b, nar_0, nar_1, nar_b, i_0, i_1, j_0, j_1, i_lit, j_lit, i_n, iI_add, iI_sub, iI_mul, iI_neg, jI_add, jI_sub, jI_mul, jI_neg, sh_1, an_1, xo_1, di_p, dj_p, i_64A, i_64, j_32, lq_ge, lq_lt, lq_le, lq_gt, lq_eq, i_lt, i_le, i_eq, j_eq, iI_A, jI_J, iI_b, iI_v, jI_v, ↓reduceIte, ite_true, ite_false, Int.reduceEq, Int.reduceLT, Int.reduceLE, Int.reduceAdd, Int.reduceSub, Int.reduceMul, Int.reduceNeg, not_true_eq_false, not_false_eq_true, A_Wn, A_WA, A_Wb, A_Ws, A_Wo, A_X, J_W, J_Xn, J_XJ, J_Xs, J_Xo]
    have r29 : ∀ i : Int, 0 ≤ i → ¬ i = (A M 219 24) → A M2 29 i = A M 29 i := fun i i0 i1 => by
      rw [e2_]; simp (config := { maxSteps := 1000000 }) (disch := (first | omega | decide | assumption)) only [ltm_s, ok_n, rd_i, rd_j, fd_i, fd_j, wr_i, wr_j, fw_i, fw_j, ci_s, cj_s, cv_s, dv_n, dw_n, rt_1, rt_b, rt_20, rt_21, okb_0, okb_1, okb_b, nar_0, nar_1, nar_b, i_0, i_1, j_0, j_1, i_lit, j_lit, i_n, iI_add, iI_sub, iI_mul, iI_neg, jI_add, jI_sub, jI_mul, jI_neg, sh_1, an_1, xo_1, di_p, dj_p, i_64A, i_64, j_32, lq_ge, lq_lt, lq_le, lq_gt, lq_eq, i_lt, i_le, i_eq, j_eq, iI_A, jI_J, iI_b, iI_v, jI_v, ↓reduceIte, ite_true, ite_false, Int.reduceEq, Int.reduceLT, Int.reduceLE, Int.reduceAdd, Int.reduceSub, Int.reduceMul, Int.reduceNeg, not_true_eq_false, not_false_eq_true, A_Wn, A_WA, A_Wb, A_Ws, A_Wo, A_X, J_W, J_Xn, J_XJ, J_Xs, J_Xo]
    have s29 : A M2 29 (A M 219 24) = h - h / 100 * 100 := by
      rw [e2_]; simp (config := { maxSteps := 1000000 }) (disch := (first | omega | decide | assumption)) only [ltm_s, ok_n, rd_i, rd_j, fd_i, fd_j, wr_i, wr_j, fw_i, fw_j, ci_s, cj_s, cv_s, dv_n, dw_n, rt_1, rt_b, rt_20, rt_21, okb_0, okb_1, okb_b, nar_0, nar_1, nar_b, i_0, i_1, j_0, j_1, i_lit, j_lit, i_n, iI_add, iI_sub, iI_mul, iI_neg, jI_add, jI_sub, jI_mul, jI_neg, sh_1, an_1, xo_1, di_p, dj_p, i_64A, i_64, j_32, lq_ge, lq_lt, lq_le, lq_gt, lq_eq, i_lt, i_le, i_eq, j_eq, iI_A, jI_J, iI_b, iI_v, jI_v, ↓reduceIte, ite_true, ite_false, Int.reduceEq, Int.reduceLT, Int.reduceLE, Int.reduceAdd, Int.reduceSub, Int.reduceMul, Int.reduceNeg, not_true_eq_false, not_false_eq_true, A_Wn, A_WA, A_Wb, A_Ws, A_Wo, A_X, J_W, J_Xn, J_XJ, J_Xs, J_Xo]
    have r30 : ∀ i : Int, 0 ≤ i → ¬ i = (A M 219 24) → A M2 30 i = A M 30 i := fun i i0 i1 => by
      rw [e2_]; simp (config := { maxSteps := 1000000 }) (disch := (first | omega | decide | assumption)) only [ltm_s, ok_n, rd_i, rd_j, fd_i, fd_j, wr_i, wr_j, fw_i, fw_j, ci_s, cj_s, cv_s, dv_n, dw_n, rt_1, rt_b, rt_20, rt_21, okb_0, okb_1, okb_b, nar_0, nar_1, nar_b, i_0, i_1, j_0, j_1, i_lit, j_lit, i_n, iI_add, iI_sub, iI_mul, iI_neg, jI_add, jI_sub, jI_mul, jI_neg, sh_1, an_1, xo_1, di_p, dj_p, i_64A, i_64, j_32, lq_ge, lq_lt, lq_le, lq_gt, lq_eq, i_lt, i_le, i_eq, j_eq, iI_A, jI_J, iI_b, iI_v, jI_v, ↓reduceIte, ite_true, ite_false, Int.reduceEq, Int.reduceLT, Int.reduceLE, Int.reduceAdd, Int.reduceSub, Int.reduceMul, Int.reduceNeg, not_true_eq_false, not_false_eq_true, A_Wn, A_WA, A_Wb, A_Ws, A_Wo, A_X, J_W, J_Xn, J_XJ, J_Xs, J_Xo]
    have s30 : A M2 30 (A M 219 24) = d := by
      rw [e2_]; simp (config := { maxSteps := 1000000 }) (disch := (first | omega | decide | assumption)) only [ltm_s, ok_n, rd_i, rd_j, fd_i, fd_j, wr_i, wr_j, fw_i, fw_j, ci_s, cj_s, cv_s, dv_n, dw_n, rt_1, rt_b, rt_20, rt_21, okb_0, okb_1, okb_b, nar_0, nar_1, nar_b, i_0, i_1, j_0, j_1, i_lit, j_lit, i_n, iI_add, iI_sub, iI_mul, iI_neg, jI_add, jI_sub, jI_mul, jI_neg, sh_1, an_1, xo_1, di_p, dj_p, i_64A, i_64, j_32, lq_ge, lq_lt, lq_le, lq_gt, lq_eq, i_lt, i_le, i_eq, j_eq, iI_A, jI_J, iI_b, iI_v, jI_v, ↓reduceIte, ite_true, ite_false, Int.reduceEq, Int.reduceLT, Int.reduceLE, Int.reduceAdd, Int.reduceSub, Int.reduceMul, Int.reduceNeg, not_true_eq_false, not_false_eq_true, A_Wn, A_WA, A_Wb, A_Ws, A_Wo, A_X, J_W, J_Xn, J_XJ, J_Xs, J_Xo]
    have r31 : ∀ i : Int, 0 ≤ i → ¬ i = (A M 219 24) → A M2 31 i = A M 31 i := fun i i0 i1 => by
      rw [e2_]; simp (config := { maxSteps := 1000000 }) (disch := (first | omega | decide | assumption)) only [ltm_s, ok_n, rd_i, rd_j, fd_i, fd_j, wr_i, wr_j, fw_i, fw_j, ci_s, cj_s, cv_s, dv_n, dw_n, rt_1, rt_b, rt_20, rt_21, okb_0, okb_1, okb_b, nar_0, nar_1, nar_b, i_0, i_1, j_0, j_1, i_lit, j_lit, i_n, iI_add, iI_sub, iI_mul, iI_neg, jI_add, jI_sub, jI_mul, jI_neg, sh_1, an_1, xo_1, di_p, dj_p, i_64A, i_64, j_32, lq_ge, lq_lt, lq_le, lq_gt, lq_eq, i_lt, i_le, i_eq, j_eq, iI_A, jI_J, iI_b, iI_v, jI_v, ↓reduceIte, ite_true, ite_false, Int.reduceEq, Int.reduceLT, Int.reduceLE, Int.reduceAdd, Int.reduceSub, Int.reduceMul, Int.reduceNeg, not_true_eq_false, not_false_eq_true, A_Wn, A_WA, A_Wb, A_Ws, A_Wo, A_X, J_W, J_Xn, J_XJ, J_Xs, J_Xo]
    have s31 : A M2 31 (A M 219 24) = toD M := by
      rw [e2_]; simp (config := { maxSteps := 1000000 }) (disch := (first | omega | decide | assumption)) only [ltm_s, ok_n, rd_i, rd_j, fd_i, fd_j, wr_i, wr_j, fw_i, fw_j, ci_s, cj_s, cv_s, dv_n, dw_n, rt_1, rt_b, rt_20, rt_21, okb_0, okb_1, okb_b, nar_0, nar_1, nar_b, i_0, i_1, j_0, j_1, i_lit, j_lit, i_n, iI_add, iI_sub, iI_mul, iI_neg, jI_add, jI_sub, jI_mul, jI_neg, sh_1, an_1, xo_1, di_p, dj_p, i_64A, i_64, j_32, lq_ge, lq_lt, lq_le, lq_gt, lq_eq, i_lt, i_le, i_eq, j_eq, iI_A, jI_J, iI_b, iI_v, jI_v, ↓reduceIte, ite_true, ite_false, Int.reduceEq, Int.reduceLT, Int.reduceLE, Int.reduceAdd, Int.reduceSub, Int.reduceMul, Int.reduceNeg, not_true_eq_false, not_false_eq_true, A_Wn, A_WA, A_Wb, A_Ws, A_Wo, A_X, J_W, J_Xn, J_XJ, J_Xs, J_Xo]
    have r238 : ∀ i : Int, 0 ≤ i → ¬ i = (A M 219 24) → A M2 238 i = A M 238 i := fun i i0 i1 => by
      rw [e2_]; simp (config := { maxSteps := 1000000 }) (disch := (first | omega | decide | assumption)) only [ltm_s, ok_n, rd_i, rd_j, fd_i, fd_j, wr_i, wr_j, fw_i, fw_j, ci_s, cj_s, cv_s, dv_n, dw_n, rt_1, rt_b, rt_20, rt_21, okb_0, okb_1, okb_b, nar_0, nar_1, nar_b, i_0, i_1, j_0, j_1, i_lit, j_lit, i_n, iI_add, iI_sub, iI_mul, iI_neg, jI_add, jI_sub, jI_mul, jI_neg, sh_1, an_1, xo_1, di_p, dj_p, i_64A, i_64, j_32, lq_ge, lq_lt, lq_le, lq_gt, lq_eq, i_lt, i_le, i_eq, j_eq, iI_A, jI_J, iI_b, iI_v, jI_v, ↓reduceIte, ite_true, ite_false, Int.reduceEq, Int.reduceLT, Int.reduceLE, Int.reduceAdd, Int.reduceSub, Int.reduceMul, Int.reduceNeg, not_true_eq_false, not_false_eq_true, A_Wn, A_WA, A_Wb, A_Ws, A_Wo, A_X, J_W, J_Xn, J_XJ, J_Xs, J_Xo]
    have s238 : A M2 238 (A M 219 24) = e := by
      rw [e2_]; simp (config := { maxSteps := 1000000 }) (disch := (first | omega | decide | assumption)) only [ltm_s, ok_n, rd_i, rd_j, fd_i, fd_j, wr_i, wr_j, fw_i, fw_j, ci_s, cj_s, cv_s, dv_n, dw_n, rt_1, rt_b, rt_20, rt_21, okb_0, okb_1, okb_b, nar_0, nar_1, nar_b, i_0, i_1, j_0, j_1, i_lit, j_lit, i_n, iI_add, iI_sub, iI_mul, iI_neg, jI_add, jI_sub, jI_mul, jI_neg, sh_1, an_1, xo_1, di_p, dj_p, i_64A, i_64, j_32, lq_ge, lq_lt, lq_le, lq_gt, lq_eq, i_lt, i_le, i_eq, j_eq, iI_A, jI_J, iI_b, iI_v, jI_v, ↓reduceIte, ite_true, ite_false, Int.reduceEq, Int.reduceLT, Int.reduceLE, Int.reduceAdd, Int.reduceSub, Int.reduceMul, Int.reduceNeg, not_true_eq_false, not_false_eq_true, A_Wn, A_WA, A_Wb, A_Ws, A_Wo, A_X, J_W, J_Xn, J_XJ, J_Xs, J_Xo]
    have r239 : ∀ i : Int, 0 ≤ i → ¬ i = (A M 219 24) → A M2 239 i = A M 239 i := fun i i0 i1 => by
      rw [e2_]; simp (config := { maxSteps := 1000000 }) (disch := (first | omega | decide | assumption)) only [ltm_s, ok_n, rd_i, rd_j, fd_i, fd_j, wr_i, wr_j, fw_i, fw_j, ci_s, cj_s, cv_s, dv_n, dw_n, rt_1, rt_b, rt_20, rt_21, okb_0, okb_1, okb_b, nar_0, nar_1, nar_b, i_0, i_1, j_0, j_1, i_lit, j_lit, i_n, iI_add, iI_sub, iI_mul, iI_neg, jI_add, jI_sub, jI_mul, jI_neg, sh_1, an_1, xo_1, di_p, dj_p, i_64A, i_64, j_32, lq_ge, lq_lt, lq_le, lq_gt, lq_eq, i_lt, i_le, i_eq, j_eq, iI_A, jI_J, iI_b, iI_v, jI_v, ↓reduceIte, ite_true, ite_false, Int.reduceEq, Int.reduceLT, Int.reduceLE, Int.reduceAdd, Int.reduceSub, Int.reduceMul, Int.reduceNeg, not_true_eq_false, not_false_eq_true, A_Wn, A_WA, A_Wb, A_Ws, A_Wo, A_X, J_W, J_Xn, J_XJ, J_Xs, J_Xo]
    have s239 : A M2 239 (A M 219 24) = f := by
      rw [e2_]; simp (config := { maxSteps := 1000000 }) (disch := (first | omega | decide | assumption)) only [ltm_s, ok_n, rd_i, rd_j, fd_i, fd_j, wr_i, wr_j, fw_i, fw_j, ci_s, cj_s, cv_s, dv_n, dw_n, rt_1, rt_b, rt_20, rt_21, okb_0, okb_1, okb_b, nar_0, nar_1, nar_b, i_0, i_1, j_0, j_1, i_lit, j_lit, i_n, iI_add, iI_sub, iI_mul, iI_neg, jI_add, jI_sub, jI_mul, jI_neg, sh_1, an_1, xo_1, di_p, dj_p, i_64A, i_64, j_32, lq_ge, lq_lt, lq_le, lq_gt, lq_eq, i_lt, i_le, i_eq, j_eq, iI_A, jI_J, iI_b, iI_v, jI_v, ↓reduceIte, ite_true, ite_false, Int.reduceEq, Int.reduceLT, Int.reduceLE, Int.reduceAdd, Int.reduceSub, Int.reduceMul, Int.reduceNeg, not_true_eq_false, not_false_eq_true, A_Wn, A_WA, A_Wb, A_Ws, A_Wo, A_X, J_W, J_Xn, J_XJ, J_Xs, J_Xo]
    have r240 : ∀ i : Int, 0 ≤ i → ¬ i = (A M 219 24) → A M2 240 i = A M 240 i := fun i i0 i1 => by
      rw [e2_]; simp (config := { maxSteps := 1000000 }) (disch := (first | omega | decide | assumption)) only [ltm_s, ok_n, rd_i, rd_j, fd_i, fd_j, wr_i, wr_j, fw_i, fw_j, ci_s, cj_s, cv_s, dv_n, dw_n, rt_1, rt_b, rt_20, rt_21, okb_0, okb_1, okb_b, nar_0, nar_1, nar_b, i_0, i_1, j_0, j_1, i_lit, j_lit, i_n, iI_add, iI_sub, iI_mul, iI_neg, jI_add, jI_sub, jI_mul, jI_neg, sh_1, an_1, xo_1, di_p, dj_p, i_64A, i_64, j_32, lq_ge, lq_lt, lq_le, lq_gt, lq_eq, i_lt, i_le, i_eq, j_eq, iI_A, jI_J, iI_b, iI_v, jI_v, ↓reduceIte, ite_true, ite_false, Int.reduceEq, Int.reduceLT, Int.reduceLE, Int.reduceAdd, Int.reduceSub, Int.reduceMul, Int.reduceNeg, not_true_eq_false, not_false_eq_true, A_Wn, A_WA, A_Wb, A_Ws, A_Wo, A_X, J_W, J_Xn, J_XJ, J_Xs, J_Xo]
    have s240 : A M2 240 (A M 219 24) = h / 100 := by
      rw [e2_]; simp (config := { maxSteps := 1000000 }) (disch := (first | omega | decide | assumption)) only [ltm_s, ok_n, rd_i, rd_j, fd_i, fd_j, wr_i, wr_j, fw_i, fw_j, ci_s, cj_s, cv_s, dv_n, dw_n, rt_1, rt_b, rt_20, rt_21, okb_0, okb_1, okb_b, nar_0, nar_1, nar_b, i_0, i_1, j_0, j_1, i_lit, j_lit, i_n, iI_add, iI_sub, iI_mul, iI_neg, jI_add, jI_sub, jI_mul, jI_neg, sh_1, an_1, xo_1, di_p, dj_p, i_64A, i_64, j_32, lq_ge, lq_lt, lq_le, lq_gt, lq_eq, i_lt, i_le, i_eq, j_eq, iI_A, jI_J, iI_b, iI_v, jI_v, ↓reduceIte, ite_true, ite_false, Int.reduceEq, Int.reduceLT, Int.reduceLE, Int.reduceAdd, Int.reduceSub, Int.reduceMul, Int.reduceNeg, not_true_eq_false, not_false_eq_true, A_Wn, A_WA, A_Wb, A_Ws, A_Wo, A_X, J_W, J_Xn, J_XJ, J_Xs, J_Xo]
    have r241 : ∀ i : Int, 0 ≤ i → ¬ i = (A M 219 24) → A M2 241 i = A M 241 i := fun i i0 i1 => by
      rw [e2_]; simp (config := { maxSteps := 1000000 }) (disch := (first | omega | decide | assumption)) only [ltm_s, ok_n, rd_i, rd_j, fd_i, fd_j, wr_i, wr_j, fw_i, fw_j, ci_s, cj_s, cv_s, dv_n, dw_n, rt_1, rt_b, rt_20, rt_21, okb_0, okb_1, okb_b, nar_0, nar_1, nar_b, i_0, i_1, j_0, j_1, i_lit, j_lit, i_n, iI_add, iI_sub, iI_mul, iI_neg, jI_add, jI_sub, jI_mul, jI_neg, sh_1, an_1, xo_1, di_p, dj_p, i_64A, i_64, j_32, lq_ge, lq_lt, lq_le, lq_gt, lq_eq, i_lt, i_le, i_eq, j_eq, iI_A, jI_J, iI_b, iI_v, jI_v, ↓reduceIte, ite_true, ite_false, Int.reduceEq, Int.reduceLT, Int.reduceLE, Int.reduceAdd, Int.reduceSub, Int.reduceMul, Int.reduceNeg, not_true_eq_false, not_false_eq_true, A_Wn, A_WA, A_Wb, A_Ws, A_Wo, A_X, J_W, J_Xn, J_XJ, J_Xs, J_Xo]
    have s241 : A M2 241 (A M 219 24) = h - h / 100 * 100 := by
      rw [e2_]; simp (config := { maxSteps := 1000000 }) (disch := (first | omega | decide | assumption)) only [ltm_s, ok_n, rd_i, rd_j, fd_i, fd_j, wr_i, wr_j, fw_i, fw_j, ci_s, cj_s, cv_s, dv_n, dw_n, rt_1, rt_b, rt_20, rt_21, okb_0, okb_1, okb_b, nar_0, nar_1, nar_b, i_0, i_1, j_0, j_1, i_lit, j_lit, i_n, iI_add, iI_sub, iI_mul, iI_neg, jI_add, jI_sub, jI_mul, jI_neg, sh_1, an_1, xo_1, di_p, dj_p, i_64A, i_64, j_32, lq_ge, lq_lt, lq_le, lq_gt, lq_eq, i_lt, i_le, i_eq, j_eq, iI_A, jI_J, iI_b, iI_v, jI_v, ↓reduceIte, ite_true, ite_false, Int.reduceEq, Int.reduceLT, Int.reduceLE, Int.reduceAdd, Int.reduceSub, Int.reduceMul, Int.reduceNeg, not_true_eq_false, not_false_eq_true, A_Wn, A_WA, A_Wb, A_Ws, A_Wo, A_X, J_W, J_Xn, J_XJ, J_Xs, J_Xo]
    have r242 : ∀ i : Int, 0 ≤ i → ¬ i = (A M 219 24) → A M2 242 i = A M 242 i := fun i i0 i1 => by
      rw [e2_]; simp (config := { maxSteps := 1000000 }) (disch := (first | omega | decide | assumption)) only [ltm_s, ok_n, rd_i, rd_j, fd_i, fd_j, wr_i, wr_j, fw_i, fw_j, ci_s, cj_s, cv_s, dv_n, dw_n, rt_1, rt_b, rt_20, rt_21, okb_0, okb_1, okb_b, nar_0, nar_1, nar_b, i_0, i_1, j_0, j_1, i_lit, j_lit, i_n, iI_add, iI_sub, iI_mul, iI_neg, jI_add, jI_sub, jI_mul, jI_neg, sh_1, an_1, xo_1, di_p, dj_p, i_64A, i_64, j_32, lq_ge, lq_lt, lq_le, lq_gt, lq_eq, i_lt, i_le, i_eq, j_eq, iI_A, jI_J, iI_b, iI_v, jI_v, ↓reduceIte, ite_true, ite_false, Int.reduceEq, Int.reduceLT, Int.reduceLE, Int.reduceAdd, Int.reduceSub, Int.reduceMul, Int.reduceNeg, not_true_eq_false, not_false_eq_true, A_Wn, A_WA, A_Wb, A_Ws, A_Wo, A_X, J_W, J_Xn, J_XJ, J_Xs, J_Xo]
    have s242 : A M2 242 (A M 219 24) = d := by
      rw [e2_]; simp (config := { maxSteps := 1000000 }) (disch := (first | omega | decide | assumption)) only [ltm_s, ok_n, rd_i, rd_j, fd_i, fd_j, wr_i, wr_j, fw_i, fw_j, ci_s, cj_s, cv_s, dv_n, dw_n, rt_1, rt_b, rt_20, rt_21, okb_0, okb_1, okb_b, nar_0, nar_1, nar_b, i_0, i_1, j_0, j_1, i_lit, j_lit, i_n, iI_add, iI_sub, iI_mul, iI_neg, jI_add, jI_sub, jI_mul, jI_neg, sh_1, an_1, xo_1, di_p, dj_p, i_64A, i_64, j_32, lq_ge, lq_lt, lq_le, lq_gt, lq_eq, i_lt, i_le, i_eq, j_eq, iI_A, jI_J, iI_b, iI_v, jI_v, ↓reduceIte, ite_true, ite_false, Int.reduceEq, Int.reduceLT, Int.reduceLE, Int.reduceAdd, Int.reduceSub, Int.reduceMul, Int.reduceNeg, not_true_eq_false, not_false_eq_true, A_Wn, A_WA, A_Wb, A_Ws, A_Wo, A_X, J_W, J_Xn, J_XJ, J_Xs, J_Xo]
    have r243 : ∀ i : Int, 0 ≤ i → ¬ i = (A M 219 24) → A M2 243 i = A M 243 i := fun i i0 i1 => by
      rw [e2_]; simp (config := { maxSteps := 1000000 }) (disch := (first | omega | decide | assumption)) only [ltm_s, ok_n, rd_i, rd_j, fd_i, fd_j, wr_i, wr_j, fw_i, fw_j, ci_s, cj_s, cv_s, dv_n, dw_n, rt_1, rt_b, rt_20, rt_21, okb_0, okb_1, okb_b, nar_0, nar_1, nar_b, i_0, i_1, j_0, j_1, i_lit, j_lit, i_n, iI_add, iI_sub, iI_mul, iI_neg, jI_add, jI_sub, jI_mul, jI_neg, sh_1, an_1, xo_1, di_p, dj_p, i_64A, i_64, j_32, lq_ge, lq_lt, lq_le, lq_gt, lq_eq, i_lt, i_le, i_eq, j_eq, iI_A, jI_J, iI_b, iI_v, jI_v, ↓reduceIte, ite_true, ite_false, Int.reduceEq, Int.reduceLT, Int.reduceLE, Int.reduceAdd, Int.reduceSub, Int.reduceMul, Int.reduceNeg, not_true_eq_false, not_false_eq_true, A_Wn, A_WA, A_Wb, A_Ws, A_Wo, A_X, J_W, J_Xn, J_XJ, J_Xs, J_Xo]
    have s243 : A M2 243 (A M 219 24) = toD M := by
      rw [e2_]; simp (config := { maxSteps := 1000000 }) (disch := (first | omega | decide | assumption)) only [ltm_s, ok_n, rd_i, rd_j, fd_i, fd_j, wr_i, wr_j, fw_i, fw_j, ci_s, cj_s, cv_s, dv_n, dw_n, rt_1, rt_b, rt_20, rt_21, okb_0, okb_1, okb_b, nar_0, nar_1, nar_b, i_0, i_1, j_0, j_1, i_lit, j_lit, i_n, iI_add, iI_sub, iI_mul, iI_neg, jI_add, jI_sub, jI_mul, jI_neg, sh_1, an_1, xo_1, di_p, dj_p, i_64A, i_64, j_32, lq_ge, lq_lt, lq_le, lq_gt, lq_eq, i_lt, i_le, i_eq, j_eq, iI_A, jI_J, iI_b, iI_v, jI_v, ↓reduceIte, ite_true, ite_false, Int.reduceEq, Int.reduceLT, Int.reduceLE, Int.reduceAdd, Int.reduceSub, Int.reduceMul, Int.reduceNeg, not_true_eq_false, not_false_eq_true, A_Wn, A_WA, A_Wb, A_Ws, A_Wo, A_X, J_W, J_Xn, J_XJ, J_Xs, J_Xo]
    have s24 : A M2 219 24 = A M 219 24 + 1 := by
      rw [e2_]; simp (config := { maxSteps := 1000000 }) (disch := (first | omega | decide | assumption)) only [ltm_s, ok_n, rd_i, rd_j, fd_i, fd_j, wr_i, wr_j, fw_i, fw_j, ci_s, cj_s, cv_s, dv_n, dw_n, rt_1, rt_b, rt_20, rt_21, okb_0, okb_1, okb_b, nar_0, nar_1, nar_b, i_0, i_1, j_0, j_1, i_lit, j_lit, i_n, iI_add, iI_sub, iI_mul, iI_neg, jI_add, jI_sub, jI_mul, jI_neg, sh_1, an_1, xo_1, di_p, dj_p, i_64A, i_64, j_32, lq_ge, lq_lt, lq_le, lq_gt, lq_eq, i_lt, i_le, i_eq, j_eq, iI_A, jI_J, iI_b, iI_v, jI_v, ↓reduceIte, ite_true, ite_false, Int.reduceEq, Int.reduceLT, Int.reduceLE, Int.reduceAdd, Int.reduceSub, Int.reduceMul, Int.reduceNeg, not_true_eq_false, not_false_eq_true, A_Wn, A_WA, A_Wb, A_Ws, A_Wo, A_X, J_W, J_Xn, J_XJ, J_Xs, J_Xo]
    have s16 : A M2 18 16 = A M 219 24 + 1 := by
      rw [e2_]; simp (config := { maxSteps := 1000000 }) (disch := (first | omega | decide | assumption)) only [ltm_s, ok_n, rd_i, rd_j, fd_i, fd_j, wr_i, wr_j, fw_i, fw_j, ci_s, cj_s, cv_s, dv_n, dw_n, rt_1, rt_b, rt_20, rt_21, okb_0, okb_1, okb_b, nar_0, nar_1, nar_b, i_0, i_1, j_0, j_1, i_lit, j_lit, i_n, iI_add, iI_sub, iI_mul, iI_neg, jI_add, jI_sub, jI_mul, jI_neg, sh_1, an_1, xo_1, di_p, dj_p, i_64A, i_64, j_32, lq_ge, lq_lt, lq_le, lq_gt, lq_eq, i_lt, i_le, i_eq, j_eq, iI_A, jI_J, iI_b, iI_v, jI_v, ↓reduceIte, ite_true, ite_false, Int.reduceEq, Int.reduceLT, Int.reduceLE, Int.reduceAdd, Int.reduceSub, Int.reduceMul, Int.reduceNeg, not_true_eq_false, not_false_eq_true, A_Wn, A_WA, A_Wb, A_Ws, A_Wo, A_X, J_W, J_Xn, J_XJ, J_Xs, J_Xo]
    have eW : nW M2 = nW M := c.f (a := 219) (z := 4) rfl
    refine ⟨by omega, by rw [s24, s16], fun k k0 k1 => ?_⟩
    rw [s24] at k1
    rw [eW]
    by_cases q : k = A M 219 24
    · rw [q, s26, s27, s28, s29, s30, s31, s238, s239, s240, s241, s242, s243]
      exact ⟨by omega, by omega, rfl, rfl, rfl, rfl, rfl, rfl⟩
    · rw [r26 k k0 q, r27 k k0 q, r28 k k0 q, r29 k k0 q, r30 k k0 q, r31 k k0 q, r238 k k0 q, r239 k k0 q, r240 k k0 q, r241 k k0 q, r242 k k0 q, r243 k k0 q]
      exact a3 k k0 (by omega)
  · rw [bI_f q10] at cf mf
    refine ⟨-3, M, M, ?_, ?_, hI'⟩
    · refine s_RunSayer_ban hF hg ?_
      simp (config := { maxSteps := 1000000 }) (disch := (first | omega | decide | assumption)) only [ltm_s, ok_n, rd_i, rd_j, fd_i, fd_j, wr_i, wr_j, fw_i, fw_j, ci_s, cj_s, cv_s, dv_n, dw_n, rt_1, rt_b, rt_20, rt_21, okb_0, okb_1, okb_b, nar_0, nar_1, nar_b, i_0, i_1, j_0, j_1, i_lit, j_lit, i_n, iI_add, iI_sub, iI_mul, iI_neg, jI_add, jI_sub, jI_mul, jI_neg, sh_1, an_1, xo_1, di_p, dj_p, i_64A, i_64, j_32, lq_ge, lq_lt, lq_le, lq_gt, lq_eq, i_lt, i_le, i_eq, j_eq, iI_A, jI_J, iI_b, iI_v, jI_v, ↓reduceIte, ite_true, ite_false, Int.reduceEq, Int.reduceLT, Int.reduceLE, Int.reduceAdd, Int.reduceSub, Int.reduceMul, Int.reduceNeg, not_true_eq_false, not_false_eq_true, ne, nf, nh, co, cd, cf]
    · refine s_Model_ban hF hg ?_
      refine ci_in (le) ?_
      rw [if_neg (show ¬ iI 1 = 0 by decide)]
      refine ci_in (lf) ?_
      rw [if_neg (show ¬ iI 1 = 0 by decide)]
      simp (config := { maxSteps := 1000000 }) (disch := (first | omega | decide | assumption)) only [ltm_s, ok_n, rd_i, rd_j, fd_i, fd_j, wr_i, wr_j, fw_i, fw_j, ci_s, cj_s, cv_s, dv_n, dw_n, rt_1, rt_b, rt_20, rt_21, okb_0, okb_1, okb_b, nar_0, nar_1, nar_b, i_0, i_1, j_0, j_1, i_lit, j_lit, i_n, iI_add, iI_sub, iI_mul, iI_neg, jI_add, jI_sub, jI_mul, jI_neg, sh_1, an_1, xo_1, di_p, dj_p, i_64A, i_64, j_32, lq_ge, lq_lt, lq_le, lq_gt, lq_eq, i_lt, i_le, i_eq, j_eq, iI_A, jI_J, iI_b, iI_v, jI_v, ↓reduceIte, ite_true, ite_false, Int.reduceEq, Int.reduceLT, Int.reduceLE, Int.reduceAdd, Int.reduceSub, Int.reduceMul, Int.reduceNeg, not_true_eq_false, not_false_eq_true, q3, q7, q8, md, mf]
end Bn
