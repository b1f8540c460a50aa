/-! ANSWERS, WAS SHUT, TAKEN, asked of both -/
section An
variable {M0 M M' : am_M} {g : am_G} {F : am_FT}
theorem b_answers (hF : F = am_F T0 g) (hg : GG g) (hI : Inv M) {w wd kn : Int} (w1 : -2147483648 ≤ w) (w2 : w < 2147483648) (d1 : -9223372036854775808 ≤ wd) (d2 : wd < 9223372036854775808) (k1 : -2147483648 ≤ kn) (k2 : kn < 2147483648) :
    ∃ r : Int, F 198 0 [.ref 0, .int (iI w), .long (jI wd), .int (iI kn)] [] M = some (some (.int (iI r)), M) ∧ F 178 0 [.ref 219, .int (iI w), .long (jI wd), .int (iI kn)] [] M = some (some (.int (iI r)), M) := by
  obtain ⟨h1, h2, h3, h4, h5, h6, h7, h8, h9, h10, h11, h12, h13, h14, h15, h16, h17, h18, h19, hm, ht⟩ := hI
  have hn := h2.1
  have h81 := h8.1
  have hA := Ag.refl M
  have mw := m_isWay hF hg hA h2 w1 w2
  have nw := c_noWay hF hg hA h2 w1 w2
  by_cases q1 : w < 0 ∨ nW M - 1 < w
  · rw [bI_t q1] at nw
    rw [bI_f (by omega)] at mw
    refine ⟨-1, ?_, ?_⟩
    · refine s_RunSayer_answers hF hg ?_
      simp (config := { maxSteps := 1000000 }) (disch := (first | omega | decide | assumption)) only [ltm_s, ok_n, rd_i, rd_j, fd_i, fd_j, wr_i, wr_j, fw_i, fw_j, ci_s, cj_s, cv_s, dv_n, dw_n, rt_1, rt_b, rt_20, rt_21, okb_0, okb_1, okb_b, nar_0, nar_1, nar_b, i_0, i_1, j_0, j_1, i_lit, j_lit, i_n, iI_add, iI_sub, iI_mul, iI_neg, jI_add, jI_sub, jI_mul, jI_neg, sh_1, an_1, xo_1, di_p, dj_p, i_64A, i_64, j_32, lq_ge, lq_lt, lq_le, lq_gt, lq_eq, i_lt, i_le, i_eq, j_eq, iI_A, jI_J, iI_b, iI_v, jI_v, ↓reduceIte, ite_true, ite_false, Int.reduceEq, Int.reduceLT, Int.reduceLE, Int.reduceAdd, Int.reduceSub, Int.reduceMul, Int.reduceNeg, not_true_eq_false, not_false_eq_true, nw]
    · refine s_Model_answers hF hg ?_
      simp (config := { maxSteps := 1000000 }) (disch := (first | omega | decide | assumption)) only [ltm_s, ok_n, rd_i, rd_j, fd_i, fd_j, wr_i, wr_j, fw_i, fw_j, ci_s, cj_s, cv_s, dv_n, dw_n, rt_1, rt_b, rt_20, rt_21, okb_0, okb_1, okb_b, nar_0, nar_1, nar_b, i_0, i_1, j_0, j_1, i_lit, j_lit, i_n, iI_add, iI_sub, iI_mul, iI_neg, jI_add, jI_sub, jI_mul, jI_neg, sh_1, an_1, xo_1, di_p, dj_p, i_64A, i_64, j_32, lq_ge, lq_lt, lq_le, lq_gt, lq_eq, i_lt, i_le, i_eq, j_eq, iI_A, jI_J, iI_b, iI_v, jI_v, ↓reduceIte, ite_true, ite_false, Int.reduceEq, Int.reduceLT, Int.reduceLE, Int.reduceAdd, Int.reduceSub, Int.reduceMul, Int.reduceNeg, not_true_eq_false, not_false_eq_true, mw]
  rw [bI_f q1] at nw
  rw [bI_t (by omega)] at mw
  obtain ⟨Q, e1, e2⟩ := b_word hF hg d1 d2
  have f1 := e1 M
  have f2 := e2 M
  by_cases qq : Q
  · rw [bI_t qq] at f1 f2
    have nk := c_notKnown hF hg hA h8 k1 k2
    have mk : F 53 0 [.int (iI kn), .int (iI 0), .int (iI (toD M))] [] M = _ := m_inn hF hg k1 k2 (by omega) (by omega) (by omega) (by omega)
    have e14 : A M 219 14 = toD M := rfl
    by_cases q2 : kn < 0 ∨ toD M < kn
    · rw [bI_t q2] at nk
      rw [bI_f (by omega)] at mk
      refine ⟨-2, ?_, ?_⟩
      · refine s_RunSayer_answers hF hg ?_
        simp (config := { maxSteps := 1000000 }) (disch := (first | omega | decide | assumption)) only [ltm_s, ok_n, rd_i, rd_j, fd_i, fd_j, wr_i, wr_j, fw_i, fw_j, ci_s, cj_s, cv_s, dv_n, dw_n, rt_1, rt_b, rt_20, rt_21, okb_0, okb_1, okb_b, nar_0, nar_1, nar_b, i_0, i_1, j_0, j_1, i_lit, j_lit, i_n, iI_add, iI_sub, iI_mul, iI_neg, jI_add, jI_sub, jI_mul, jI_neg, sh_1, an_1, xo_1, di_p, dj_p, i_64A, i_64, j_32, lq_ge, lq_lt, lq_le, lq_gt, lq_eq, i_lt, i_le, i_eq, j_eq, iI_A, jI_J, iI_b, iI_v, jI_v, ↓reduceIte, ite_true, ite_false, Int.reduceEq, Int.reduceLT, Int.reduceLE, Int.reduceAdd, Int.reduceSub, Int.reduceMul, Int.reduceNeg, not_true_eq_false, not_false_eq_true, nw, f1, nk]
      · refine s_Model_answers hF hg ?_
        simp (config := { maxSteps := 1000000 }) (disch := (first | omega | decide | assumption)) only [ltm_s, ok_n, rd_i, rd_j, fd_i, fd_j, wr_i, wr_j, fw_i, fw_j, ci_s, cj_s, cv_s, dv_n, dw_n, rt_1, rt_b, rt_20, rt_21, okb_0, okb_1, okb_b, nar_0, nar_1, nar_b, i_0, i_1, j_0, j_1, i_lit, j_lit, i_n, iI_add, iI_sub, iI_mul, iI_neg, jI_add, jI_sub, jI_mul, jI_neg, sh_1, an_1, xo_1, di_p, dj_p, i_64A, i_64, j_32, lq_ge, lq_lt, lq_le, lq_gt, lq_eq, i_lt, i_le, i_eq, j_eq, iI_A, jI_J, iI_b, iI_v, jI_v, ↓reduceIte, ite_true, ite_false, Int.reduceEq, Int.reduceLT, Int.reduceLE, Int.reduceAdd, Int.reduceSub, Int.reduceMul, Int.reduceNeg, not_true_eq_false, not_false_eq_true, mw, f2, e14, mk]
    rw [bI_f q2] at nk
    rw [bI_t (by omega)] at mk
    have c := c_answersTo hF hg hA h5 w1 w2 d1 d2 k1 k2
    have m := m_answersTo hF hg hA h5 w1 w2 d1 d2 k1 k2
    by_cases q3 : ans M w wd kn
    · rw [bI_t q3] at c m
      refine ⟨1, ?_, ?_⟩
      · refine s_RunSayer_answers hF hg ?_
        simp (config := { maxSteps := 1000000 }) (disch := (first | omega | decide | assumption)) only [ltm_s, ok_n, rd_i, rd_j, fd_i, fd_j, wr_i, wr_j, fw_i, fw_j, ci_s, cj_s, cv_s, dv_n, dw_n, rt_1, rt_b, rt_20, rt_21, okb_0, okb_1, okb_b, nar_0, nar_1, nar_b, i_0, i_1, j_0, j_1, i_lit, j_lit, i_n, iI_add, iI_sub, iI_mul, iI_neg, jI_add, jI_sub, jI_mul, jI_neg, sh_1, an_1, xo_1, di_p, dj_p, i_64A, i_64, j_32, lq_ge, lq_lt, lq_le, lq_gt, lq_eq, i_lt, i_le, i_eq, j_eq, iI_A, jI_J, iI_b, iI_v, jI_v, ↓reduceIte, ite_true, ite_false, Int.reduceEq, Int.reduceLT, Int.reduceLE, Int.reduceAdd, Int.reduceSub, Int.reduceMul, Int.reduceNeg, not_true_eq_false, not_false_eq_true, nw, f1, nk, c]
      · refine s_Model_answers hF hg ?_
        simp (config := { maxSteps := 1000000 }) (disch := (first | omega | decide | assumption)) only [ltm_s, ok_n, rd_i, rd_j, fd_i, fd_j, wr_i, wr_j, fw_i, fw_j, ci_s, cj_s, cv_s, dv_n, dw_n, rt_1, rt_b, rt_20, rt_21, okb_0, okb_1, okb_b, nar_0, nar_1, nar_b, i_0, i_1, j_0, j_1, i_lit, j_lit, i_n, iI_add, iI_sub, iI_mul, iI_neg, jI_add, jI_sub, jI_mul, jI_neg, sh_1, an_1, xo_1, di_p, dj_p, i_64A, i_64, j_32, lq_ge, lq_lt, lq_le, lq_gt, lq_eq, i_lt, i_le, i_eq, j_eq, iI_A, jI_J, iI_b, iI_v, jI_v, ↓reduceIte, ite_true, ite_false, Int.reduceEq, Int.reduceLT, Int.reduceLE, Int.reduceAdd, Int.reduceSub, Int.reduceMul, Int.reduceNeg, not_true_eq_false, not_false_eq_true, mw, f2, e14, mk, m]
    · rw [bI_f q3] at c m
      refine ⟨0, ?_, ?_⟩
      · refine s_RunSayer_answers hF hg ?_
        simp (config := { maxSteps := 1000000 }) (disch := (first | omega | decide | assumption)) only [ltm_s, ok_n, rd_i, rd_j, fd_i, fd_j, wr_i, wr_j, fw_i, fw_j, ci_s, cj_s, cv_s, dv_n, dw_n, rt_1, rt_b, rt_20, rt_21, okb_0, okb_1, okb_b, nar_0, nar_1, nar_b, i_0, i_1, j_0, j_1, i_lit, j_lit, i_n, iI_add, iI_sub, iI_mul, iI_neg, jI_add, jI_sub, jI_mul, jI_neg, sh_1, an_1, xo_1, di_p, dj_p, i_64A, i_64, j_32, lq_ge, lq_lt, lq_le, lq_gt, lq_eq, i_lt, i_le, i_eq, j_eq, iI_A, jI_J, iI_b, iI_v, jI_v, ↓reduceIte, ite_true, ite_false, Int.reduceEq, Int.reduceLT, Int.reduceLE, Int.reduceAdd, Int.reduceSub, Int.reduceMul, Int.reduceNeg, not_true_eq_false, not_false_eq_true, nw, f1, nk, c]
      · refine s_Model_answers hF hg ?_
        simp (config := { maxSteps := 1000000 }) (disch := (first | omega | decide | assumption)) only [ltm_s, ok_n, rd_i, rd_j, fd_i, fd_j, wr_i, wr_j, fw_i, fw_j, ci_s, cj_s, cv_s, dv_n, dw_n, rt_1, rt_b, rt_20, rt_21, okb_0, okb_1, okb_b, nar_0, nar_1, nar_b, i_0, i_1, j_0, j_1, i_lit, j_lit, i_n, iI_add, iI_sub, iI_mul, iI_neg, jI_add, jI_sub, jI_mul, jI_neg, sh_1, an_1, xo_1, di_p, dj_p, i_64A, i_64, j_32, lq_ge, lq_lt, lq_le, lq_gt, lq_eq, i_lt, i_le, i_eq, j_eq, iI_A, jI_J, iI_b, iI_v, jI_v, ↓reduceIte, ite_true, ite_false, Int.reduceEq, Int.reduceLT, Int.reduceLE, Int.reduceAdd, Int.reduceSub, Int.reduceMul, Int.reduceNeg, not_true_eq_false, not_false_eq_true, mw, f2, e14, mk, m]
  · rw [bI_f qq] at f1 f2
    refine ⟨-2, ?_, ?_⟩
    · refine s_RunSayer_answers hF hg ?_
      simp (config := { maxSteps := 1000000 }) (disch := (first | omega | decide | assumption)) only [ltm_s, ok_n, rd_i, rd_j, fd_i, fd_j, wr_i, wr_j, fw_i, fw_j, ci_s, cj_s, cv_s, dv_n, dw_n, rt_1, rt_b, rt_20, rt_21, okb_0, okb_1, okb_b, nar_0, nar_1, nar_b, i_0, i_1, j_0, j_1, i_lit, j_lit, i_n, iI_add, iI_sub, iI_mul, iI_neg, jI_add, jI_sub, jI_mul, jI_neg, sh_1, an_1, xo_1, di_p, dj_p, i_64A, i_64, j_32, lq_ge, lq_lt, lq_le, lq_gt, lq_eq, i_lt, i_le, i_eq, j_eq, iI_A, jI_J, iI_b, iI_v, jI_v, ↓reduceIte, ite_true, ite_false, Int.reduceEq, Int.reduceLT, Int.reduceLE, Int.reduceAdd, Int.reduceSub, Int.reduceMul, Int.reduceNeg, not_true_eq_false, not_false_eq_true, nw, f1]
    · refine s_Model_answers hF hg ?_
      simp (config := { maxSteps := 1000000 }) (disch := (first | omega | decide | assumption)) only [ltm_s, ok_n, rd_i, rd_j, fd_i, fd_j, wr_i, wr_j, fw_i, fw_j, ci_s, cj_s, cv_s, dv_n, dw_n, rt_1, rt_b, rt_20, rt_21, okb_0, okb_1, okb_b, nar_0, nar_1, nar_b, i_0, i_1, j_0, j_1, i_lit, j_lit, i_n, iI_add, iI_sub, iI_mul, iI_neg, jI_add, jI_sub, jI_mul, jI_neg, sh_1, an_1, xo_1, di_p, dj_p, i_64A, i_64, j_32, lq_ge, lq_lt, lq_le, lq_gt, lq_eq, i_lt, i_le, i_eq, j_eq, iI_A, jI_J, iI_b, iI_v, jI_v, ↓reduceIte, ite_true, ite_false, Int.reduceEq, Int.reduceLT, Int.reduceLE, Int.reduceAdd, Int.reduceSub, Int.reduceMul, Int.reduceNeg, not_true_eq_false, not_false_eq_true, mw, f2]
theorem b_wasShut (hF : F = am_F T0 g) (hg : GG g) (hI : Inv M) {w day kn : Int} (w1 : -2147483648 ≤ w) (w2 : w < 2147483648) (d1 : -2147483648 ≤ day) (d2 : day < 2147483648) (k1 : -2147483648 ≤ kn) (k2 : kn < 2147483648) :
    ∃ r : Int, F 212 0 [.ref 0, .int (iI w), .int (iI day), .int (iI kn)] [] M = some (some (.int (iI r)), M) ∧ F 194 0 [.ref 219, .int (iI w), .int (iI day), .int (iI kn)] [] M = some (some (.int (iI r)), M) := by
  obtain ⟨h1, h2, h3, h4, h5, h6, h7, h8, h9, h10, h11, h12, h13, h14, h15, h16, h17, h18, h19, hm, ht⟩ := hI
  have hn := h2.1
  have h81 := h8.1
  have hA := Ag.refl M
  have mw := m_isWay hF hg hA h2 w1 w2
  have nw := c_noWay hF hg hA h2 w1 w2
  by_cases q1 : w < 0 ∨ nW M - 1 < w
  · rw [bI_t q1] at nw
    rw [bI_f (by omega)] at mw
    refine ⟨-1, ?_, ?_⟩
    · refine s_RunSayer_wasShut hF hg ?_
      simp (config := { maxSteps := 1000000 }) (disch := (first | omega | decide | assumption)) only [ltm_s, ok_n, rd_i, rd_j, fd_i, fd_j, wr_i, wr_j, fw_i, fw_j, ci_s, cj_s, cv_s, dv_n, dw_n, rt_1, rt_b, rt_20, rt_21, okb_0, okb_1, okb_b, nar_0, nar_1, nar_b, i_0, i_1, j_0, j_1, i_lit, j_lit, i_n, iI_add, iI_sub, iI_mul, iI_neg, jI_add, jI_sub, jI_mul, jI_neg, sh_1, an_1, xo_1, di_p, dj_p, i_64A, i_64, j_32, lq_ge, lq_lt, lq_le, lq_gt, lq_eq, i_lt, i_le, i_eq, j_eq, iI_A, jI_J, iI_b, iI_v, jI_v, ↓reduceIte, ite_true, ite_false, Int.reduceEq, Int.reduceLT, Int.reduceLE, Int.reduceAdd, Int.reduceSub, Int.reduceMul, Int.reduceNeg, not_true_eq_false, not_false_eq_true, nw]
    · refine s_Model_wasShut hF hg ?_
      simp (config := { maxSteps := 1000000 }) (disch := (first | omega | decide | assumption)) only [ltm_s, ok_n, rd_i, rd_j, fd_i, fd_j, wr_i, wr_j, fw_i, fw_j, ci_s, cj_s, cv_s, dv_n, dw_n, rt_1, rt_b, rt_20, rt_21, okb_0, okb_1, okb_b, nar_0, nar_1, nar_b, i_0, i_1, j_0, j_1, i_lit, j_lit, i_n, iI_add, iI_sub, iI_mul, iI_neg, jI_add, jI_sub, jI_mul, jI_neg, sh_1, an_1, xo_1, di_p, dj_p, i_64A, i_64, j_32, lq_ge, lq_lt, lq_le, lq_gt, lq_eq, i_lt, i_le, i_eq, j_eq, iI_A, jI_J, iI_b, iI_v, jI_v, ↓reduceIte, ite_true, ite_false, Int.reduceEq, Int.reduceLT, Int.reduceLE, Int.reduceAdd, Int.reduceSub, Int.reduceMul, Int.reduceNeg, not_true_eq_false, not_false_eq_true, mw]
  rw [bI_f q1] at nw
  rw [bI_t (by omega)] at mw
  have co := c_outside hF hg (M := M) (v := day) (l := 0) (h := 299) d1 d2 (by omega) (by omega) (by omega) (by omega)
  have mi := m_inn hF hg (M := M) (v := day) (l := 0) (h := 299) d1 d2 (by omega) (by omega) (by omega) (by omega)
  by_cases q0 : day < 0 ∨ 299 < day
  · rw [bI_t q0] at co
    rw [bI_f (by omega)] at mi
    refine ⟨-2, ?_, ?_⟩
    · refine s_RunSayer_wasShut hF hg ?_
      simp (config := { maxSteps := 1000000 }) (disch := (first | omega | decide | assumption)) only [ltm_s, ok_n, rd_i, rd_j, fd_i, fd_j, wr_i, wr_j, fw_i, fw_j, ci_s, cj_s, cv_s, dv_n, dw_n, rt_1, rt_b, rt_20, rt_21, okb_0, okb_1, okb_b, nar_0, nar_1, nar_b, i_0, i_1, j_0, j_1, i_lit, j_lit, i_n, iI_add, iI_sub, iI_mul, iI_neg, jI_add, jI_sub, jI_mul, jI_neg, sh_1, an_1, xo_1, di_p, dj_p, i_64A, i_64, j_32, lq_ge, lq_lt, lq_le, lq_gt, lq_eq, i_lt, i_le, i_eq, j_eq, iI_A, jI_J, iI_b, iI_v, jI_v, ↓reduceIte, ite_true, ite_false, Int.reduceEq, Int.reduceLT, Int.reduceLE, Int.reduceAdd, Int.reduceSub, Int.reduceMul, Int.reduceNeg, not_true_eq_false, not_false_eq_true, nw, co]
    · refine s_Model_wasShut hF hg ?_
      simp (config := { maxSteps := 1000000 }) (disch := (first | omega | decide | assumption)) only [ltm_s, ok_n, rd_i, rd_j, fd_i, fd_j, wr_i, wr_j, fw_i, fw_j, ci_s, cj_s, cv_s, dv_n, dw_n, rt_1, rt_b, rt_20, rt_21, okb_0, okb_1, okb_b, nar_0, nar_1, nar_b, i_0, i_1, j_0, j_1, i_lit, j_lit, i_n, iI_add, iI_sub, iI_mul, iI_neg, jI_add, jI_sub, jI_mul, jI_neg, sh_1, an_1, xo_1, di_p, dj_p, i_64A, i_64, j_32, lq_ge, lq_lt, lq_le, lq_gt, lq_eq, i_lt, i_le, i_eq, j_eq, iI_A, jI_J, iI_b, iI_v, jI_v, ↓reduceIte, ite_true, ite_false, Int.reduceEq, Int.reduceLT, Int.reduceLE, Int.reduceAdd, Int.reduceSub, Int.reduceMul, Int.reduceNeg, not_true_eq_false, not_false_eq_true, mw, mi]
  rw [bI_f q0] at co
  rw [bI_t (by omega)] at mi
  have nk := c_notKnown hF hg hA h8 k1 k2
  have mk : F 53 0 [.int (iI kn), .int (iI 0), .int (iI (toD M))] [] M = _ := m_inn hF hg k1 k2 (by omega) (by omega) (by omega) (by omega)
  have e14 : A M 219 14 = toD M := rfl
  by_cases q2 : kn < 0 ∨ toD M < kn
  · rw [bI_t q2] at nk
    rw [bI_f (by omega)] at mk
    refine ⟨-2, ?_, ?_⟩
    · refine s_RunSayer_wasShut hF hg ?_
      simp (config := { maxSteps := 1000000 }) (disch := (first | omega | decide | assumption)) only [ltm_s, ok_n, rd_i, rd_j, fd_i, fd_j, wr_i, wr_j, fw_i, fw_j, ci_s, cj_s, cv_s, dv_n, dw_n, rt_1, rt_b, rt_20, rt_21, okb_0, okb_1, okb_b, nar_0, nar_1, nar_b, i_0, i_1, j_0, j_1, i_lit, j_lit, i_n, iI_add, iI_sub, iI_mul, iI_neg, jI_add, jI_sub, jI_mul, jI_neg, sh_1, an_1, xo_1, di_p, dj_p, i_64A, i_64, j_32, lq_ge, lq_lt, lq_le, lq_gt, lq_eq, i_lt, i_le, i_eq, j_eq, iI_A, jI_J, iI_b, iI_v, jI_v, ↓reduceIte, ite_true, ite_false, Int.reduceEq, Int.reduceLT, Int.reduceLE, Int.reduceAdd, Int.reduceSub, Int.reduceMul, Int.reduceNeg, not_true_eq_false, not_false_eq_true, nw, co, nk]
    · refine s_Model_wasShut hF hg ?_
      simp (config := { maxSteps := 1000000 }) (disch := (first | omega | decide | assumption)) only [ltm_s, ok_n, rd_i, rd_j, fd_i, fd_j, wr_i, wr_j, fw_i, fw_j, ci_s, cj_s, cv_s, dv_n, dw_n, rt_1, rt_b, rt_20, rt_21, okb_0, okb_1, okb_b, nar_0, nar_1, nar_b, i_0, i_1, j_0, j_1, i_lit, j_lit, i_n, iI_add, iI_sub, iI_mul, iI_neg, jI_add, jI_sub, jI_mul, jI_neg, sh_1, an_1, xo_1, di_p, dj_p, i_64A, i_64, j_32, lq_ge, lq_lt, lq_le, lq_gt, lq_eq, i_lt, i_le, i_eq, j_eq, iI_A, jI_J, iI_b, iI_v, jI_v, ↓reduceIte, ite_true, ite_false, Int.reduceEq, Int.reduceLT, Int.reduceLE, Int.reduceAdd, Int.reduceSub, Int.reduceMul, Int.reduceNeg, not_true_eq_false, not_false_eq_true, mw, mi, e14, mk]
  rw [bI_f q2] at nk
  rw [bI_t (by omega)] at mk
  have c := c_isShut hF hg hA h6 w1 w2 d1 d2 k1 k2
  have m := m_isShut hF hg hA h6 w1 w2 d1 d2 k1 k2
  by_cases q3 : shu M w day kn
  · rw [bI_t q3] at c m
    refine ⟨1, ?_, ?_⟩
    · refine s_RunSayer_wasShut hF hg ?_
      simp (config := { maxSteps := 1000000 }) (disch := (first | omega | decide | assumption)) only [ltm_s, ok_n, rd_i, rd_j, fd_i, fd_j, wr_i, wr_j, fw_i, fw_j, ci_s, cj_s, cv_s, dv_n, dw_n, rt_1, rt_b, rt_20, rt_21, okb_0, okb_1, okb_b, nar_0, nar_1, nar_b, i_0, i_1, j_0, j_1, i_lit, j_lit, i_n, iI_add, iI_sub, iI_mul, iI_neg, jI_add, jI_sub, jI_mul, jI_neg, sh_1, an_1, xo_1, di_p, dj_p, i_64A, i_64, j_32, lq_ge, lq_lt, lq_le, lq_gt, lq_eq, i_lt, i_le, i_eq, j_eq, iI_A, jI_J, iI_b, iI_v, jI_v, ↓reduceIte, ite_true, ite_false, Int.reduceEq, Int.reduceLT, Int.reduceLE, Int.reduceAdd, Int.reduceSub, Int.reduceMul, Int.reduceNeg, not_true_eq_false, not_false_eq_true, nw, co, nk, c]
    · refine s_Model_wasShut hF hg ?_
      simp (config := { maxSteps := 1000000 }) (disch := (first | omega | decide | assumption)) only [ltm_s, ok_n, rd_i, rd_j, fd_i, fd_j, wr_i, wr_j, fw_i, fw_j, ci_s, cj_s, cv_s, dv_n, dw_n, rt_1, rt_b, rt_20, rt_21, okb_0, okb_1, okb_b, nar_0, nar_1, nar_b, i_0, i_1, j_0, j_1, i_lit, j_lit, i_n, iI_add, iI_sub, iI_mul, iI_neg, jI_add, jI_sub, jI_mul, jI_neg, sh_1, an_1, xo_1, di_p, dj_p, i_64A, i_64, j_32, lq_ge, lq_lt, lq_le, lq_gt, lq_eq, i_lt, i_le, i_eq, j_eq, iI_A, jI_J, iI_b, iI_v, jI_v, ↓reduceIte, ite_true, ite_false, Int.reduceEq, Int.reduceLT, Int.reduceLE, Int.reduceAdd, Int.reduceSub, Int.reduceMul, Int.reduceNeg, not_true_eq_false, not_false_eq_true, mw, mi, e14, mk, m]
  · rw [bI_f q3] at c m
    refine ⟨0, ?_, ?_⟩
    · refine s_RunSayer_wasShut hF hg ?_
      simp (config := { maxSteps := 1000000 }) (disch := (first | omega | decide | assumption)) only [ltm_s, ok_n, rd_i, rd_j, fd_i, fd_j, wr_i, wr_j, fw_i, fw_j, ci_s, cj_s, cv_s, dv_n, dw_n, rt_1, rt_b, rt_20, rt_21, okb_0, okb_1, okb_b, nar_0, nar_1, nar_b, i_0, i_1, j_0, j_1, i_lit, j_lit, i_n, iI_add, iI_sub, iI_mul, iI_neg, jI_add, jI_sub, jI_mul, jI_neg, sh_1, an_1, xo_1, di_p, dj_p, i_64A, i_64, j_32, lq_ge, lq_lt, lq_le, lq_gt, lq_eq, i_lt, i_le, i_eq, j_eq, iI_A, jI_J, iI_b, iI_v, jI_v, ↓reduceIte, ite_true, ite_false, Int.reduceEq, Int.reduceLT, Int.reduceLE, Int.reduceAdd, Int.reduceSub, Int.reduceMul, Int.reduceNeg, not_true_eq_false, not_false_eq_true, nw, co, nk, c]
    · refine s_Model_wasShut hF hg ?_
      simp (config := { maxSteps := 1000000 }) (disch := (first | omega | decide | assumption)) only [ltm_s, ok_n, rd_i, rd_j, fd_i, fd_j, wr_i, wr_j, fw_i, fw_j, ci_s, cj_s, cv_s, dv_n, dw_n, rt_1, rt_b, rt_20, rt_21, okb_0, okb_1, okb_b, nar_0, nar_1, nar_b, i_0, i_1, j_0, j_1, i_lit, j_lit, i_n, iI_add, iI_sub, iI_mul, iI_neg, jI_add, jI_sub, jI_mul, jI_neg, sh_1, an_1, xo_1, di_p, dj_p, i_64A, i_64, j_32, lq_ge, lq_lt, lq_le, lq_gt, lq_eq, i_lt, i_le, i_eq, j_eq, iI_A, jI_J, iI_b, iI_v, jI_v, ↓reduceIte, ite_true, ite_false, Int.reduceEq, Int.reduceLT, Int.reduceLE, Int.reduceAdd, Int.reduceSub, Int.reduceMul, Int.reduceNeg, not_true_eq_false, not_false_eq_true, mw, mi, e14, mk, m]
/-- a kind is one of a sort -/
def und (k s : Int) : Prop := s = 0 ∨ k = s ∨ s = 1 ∧ k = 3 ∨ s = 2 ∧ 4 ≤ k ∨ s = 4 ∧ k = 5
theorem kd_n (hF : F = am_F T0 g) (hg : GG g) {s t : Int} (s0 : 0 ≤ s) (s1 : s ≤ 5) (t0 : 0 ≤ t) (t1 : t ≤ 6) : F 8 4 [.int (iI s), .int (iI (-1)), .int (iI t)] [] M = some (some (.int (iI 0)), M) := by
  refine s_City_isOfKind_4 hF hg ?_
  have q : ¬ (-1 = s) := by omega
  simp (config := { maxSteps := 1000000 }) (disch := (first | omega | decide | assumption)) only [ltm_s, ok_n, rd_i, rd_j, fd_i, fd_j, wr_i, wr_j, fw_i, fw_j, ci_s, cj_s, cv_s, dv_n, dw_n, rt_1, rt_b, rt_20, rt_21, okb_0, okb_1, okb_b, nar_0, nar_1, nar_b, i_0, i_1, j_0, j_1, i_lit, j_lit, i_n, iI_add, iI_sub, iI_mul, iI_neg, jI_add, jI_sub, jI_mul, jI_neg, sh_1, an_1, xo_1, di_p, dj_p, i_64A, i_64, j_32, lq_ge, lq_lt, lq_le, lq_gt, lq_eq, i_lt, i_le, i_eq, j_eq, iI_A, jI_J, iI_b, iI_v, jI_v, ↓reduceIte, ite_true, ite_false, Int.reduceEq, Int.reduceLT, Int.reduceLE, Int.reduceAdd, Int.reduceSub, Int.reduceMul, Int.reduceNeg, not_true_eq_false, not_false_eq_true, q]
  by_cases c : 6 ≤ t
  · rw [if_pos c]
  · rw [if_neg c]
theorem kd_0 (hF : F = am_F T0 g) (hg : GG g) {s t : Int} (s0 : 0 ≤ s) (s1 : s ≤ 5) (t0 : 0 ≤ t) (t1 : t ≤ 5) : F 8 4 [.int (iI s), .int (iI 0), .int (iI t)] [] M = some (some (.int (iI (bI (und 0 s)))), M) := by
  refine s_City_isOfKind_4 hF hg ?_
  have eb : am_bro 0 = iI (-1) := rfl
  have ez : (iI 0).toNatClampNeg = 0 := rfl
  have ht : ¬ 6 ≤ t := by omega
  by_cases q : 0 = s
  · rw [bI_t (show und 0 s from Or.inr (Or.inl q))]
    simp (config := { maxSteps := 1000000 }) (disch := (first | omega | decide | assumption)) only [ltm_s, ok_n, rd_i, rd_j, fd_i, fd_j, wr_i, wr_j, fw_i, fw_j, ci_s, cj_s, cv_s, dv_n, dw_n, rt_1, rt_b, rt_20, rt_21, okb_0, okb_1, okb_b, nar_0, nar_1, nar_b, i_0, i_1, j_0, j_1, i_lit, j_lit, i_n, iI_add, iI_sub, iI_mul, iI_neg, jI_add, jI_sub, jI_mul, jI_neg, sh_1, an_1, xo_1, di_p, dj_p, i_64A, i_64, j_32, lq_ge, lq_lt, lq_le, lq_gt, lq_eq, i_lt, i_le, i_eq, j_eq, iI_A, jI_J, iI_b, iI_v, jI_v, ↓reduceIte, ite_true, ite_false, Int.reduceEq, Int.reduceLT, Int.reduceLE, Int.reduceAdd, Int.reduceSub, Int.reduceMul, Int.reduceNeg, not_true_eq_false, not_false_eq_true, ht, eq_true q]
  · have hd := kd_n hF hg (M := M) (s := s) (t := t + 1) s0 s1 (by omega) (by omega)
    rw [bI_f (show ¬ und 0 s by unfold und; omega)]
    simp (config := { maxSteps := 1000000 }) (disch := (first | omega | decide | assumption)) only [ltm_s, ok_n, rd_i, rd_j, fd_i, fd_j, wr_i, wr_j, fw_i, fw_j, ci_s, cj_s, cv_s, dv_n, dw_n, rt_1, rt_b, rt_20, rt_21, okb_0, okb_1, okb_b, nar_0, nar_1, nar_b, i_0, i_1, j_0, j_1, i_lit, j_lit, i_n, iI_add, iI_sub, iI_mul, iI_neg, jI_add, jI_sub, jI_mul, jI_neg, sh_1, an_1, xo_1, di_p, dj_p, i_64A, i_64, j_32, lq_ge, lq_lt, lq_le, lq_gt, lq_eq, i_lt, i_le, i_eq, j_eq, iI_A, jI_J, iI_b, iI_v, jI_v, ↓reduceIte, ite_true, ite_false, Int.reduceEq, Int.reduceLT, Int.reduceLE, Int.reduceAdd, Int.reduceSub, Int.reduceMul, Int.reduceNeg, not_true_eq_false, not_false_eq_true, q, ht, ez, eb, hd]
theorem kd_1 (hF : F = am_F T0 g) (hg : GG g) {s t : Int} (s0 : 0 ≤ s) (s1 : s ≤ 5) (t0 : 0 ≤ t) (t1 : t ≤ 4) : F 8 4 [.int (iI s), .int (iI 1), .int (iI t)] [] M = some (some (.int (iI (bI (und 1 s)))), M) := by
  refine s_City_isOfKind_4 hF hg ?_
  have eb : am_bro 1 = iI (0) := rfl
  have ez : (iI 1).toNatClampNeg = 1 := rfl
  have ht : ¬ 6 ≤ t := by omega
  by_cases q : 1 = s
  · rw [bI_t (show und 1 s from Or.inr (Or.inl q))]
    simp (config := { maxSteps := 1000000 }) (disch := (first | omega | decide | assumption)) only [ltm_s, ok_n, rd_i, rd_j, fd_i, fd_j, wr_i, wr_j, fw_i, fw_j, ci_s, cj_s, cv_s, dv_n, dw_n, rt_1, rt_b, rt_20, rt_21, okb_0, okb_1, okb_b, nar_0, nar_1, nar_b, i_0, i_1, j_0, j_1, i_lit, j_lit, i_n, iI_add, iI_sub, iI_mul, iI_neg, jI_add, jI_sub, jI_mul, jI_neg, sh_1, an_1, xo_1, di_p, dj_p, i_64A, i_64, j_32, lq_ge, lq_lt, lq_le, lq_gt, lq_eq, i_lt, i_le, i_eq, j_eq, iI_A, jI_J, iI_b, iI_v, jI_v, ↓reduceIte, ite_true, ite_false, Int.reduceEq, Int.reduceLT, Int.reduceLE, Int.reduceAdd, Int.reduceSub, Int.reduceMul, Int.reduceNeg, not_true_eq_false, not_false_eq_true, ht, eq_true q]
  · have hd := kd_0 hF hg (M := M) (s := s) (t := t + 1) s0 s1 (by omega) (by omega)
    rw [bI_cg (show und 0 s ↔ und 1 s by unfold und; omega)] at hd
    simp (config := { maxSteps := 1000000 }) (disch := (first | omega | decide | assumption)) only [ltm_s, ok_n, rd_i, rd_j, fd_i, fd_j, wr_i, wr_j, fw_i, fw_j, ci_s, cj_s, cv_s, dv_n, dw_n, rt_1, rt_b, rt_20, rt_21, okb_0, okb_1, okb_b, nar_0, nar_1, nar_b, i_0, i_1, j_0, j_1, i_lit, j_lit, i_n, iI_add, iI_sub, iI_mul, iI_neg, jI_add, jI_sub, jI_mul, jI_neg, sh_1, an_1, xo_1, di_p, dj_p, i_64A, i_64, j_32, lq_ge, lq_lt, lq_le, lq_gt, lq_eq, i_lt, i_le, i_eq, j_eq, iI_A, jI_J, iI_b, iI_v, jI_v, ↓reduceIte, ite_true, ite_false, Int.reduceEq, Int.reduceLT, Int.reduceLE, Int.reduceAdd, Int.reduceSub, Int.reduceMul, Int.reduceNeg, not_true_eq_false, not_false_eq_true, q, ht, ez, eb, hd]
theorem kd_2 (hF : F = am_F T0 g) (hg : GG g) {s t : Int} (s0 : 0 ≤ s) (s1 : s ≤ 5) (t0 : 0 ≤ t) (t1 : t ≤ 4) : F 8 4 [.int (iI s), .int (iI 2), .int (iI t)] [] M = some (some (.int (iI (bI (und 2 s)))), M) := by
  refine s_City_isOfKind_4 hF hg ?_
  have eb : am_bro 2 = iI (0) := rfl
  have ez : (iI 2).toNatClampNeg = 2 := rfl
  have ht : ¬ 6 ≤ t := by omega
  by_cases q : 2 = s
  · rw [bI_t (show und 2 s from Or.inr (Or.inl q))]
    simp (config := { maxSteps := 1000000 }) (disch := (first | omega | decide | assumption)) only [ltm_s, ok_n, rd_i, rd_j, fd_i, fd_j, wr_i, wr_j, fw_i, fw_j, ci_s, cj_s, cv_s, dv_n, dw_n, rt_1, rt_b, rt_20, rt_21, okb_0, okb_1, okb_b, nar_0, nar_1, nar_b, i_0, i_1, j_0, j_1, i_lit, j_lit, i_n, iI_add, iI_sub, iI_mul, iI_neg, jI_add, jI_sub, jI_mul, jI_neg, sh_1, an_1, xo_1, di_p, dj_p, i_64A, i_64, j_32, lq_ge, lq_lt, lq_le, lq_gt, lq_eq, i_lt, i_le, i_eq, j_eq, iI_A, jI_J, iI_b, iI_v, jI_v, ↓reduceIte, ite_true, ite_false, Int.reduceEq, Int.reduceLT, Int.reduceLE, Int.reduceAdd, Int.reduceSub, Int.reduceMul, Int.reduceNeg, not_true_eq_false, not_false_eq_true, ht, eq_true q]
  · have hd := kd_0 hF hg (M := M) (s := s) (t := t + 1) s0 s1 (by omega) (by omega)
    rw [bI_cg (show und 0 s ↔ und 2 s by unfold und; omega)] at hd
    simp (config := { maxSteps := 1000000 }) (disch := (first | omega | decide | assumption)) only [ltm_s, ok_n, rd_i, rd_j, fd_i, fd_j, wr_i, wr_j, fw_i, fw_j, ci_s, cj_s, cv_s, dv_n, dw_n, rt_1, rt_b, rt_20, rt_21, okb_0, okb_1, okb_b, nar_0, nar_1, nar_b, i_0, i_1, j_0, j_1, i_lit, j_lit, i_n, iI_add, iI_sub, iI_mul, iI_neg, jI_add, jI_sub, jI_mul, jI_neg, sh_1, an_1, xo_1, di_p, dj_p, i_64A, i_64, j_32, lq_ge, lq_lt, lq_le, lq_gt, lq_eq, i_lt, i_le, i_eq, j_eq, iI_A, jI_J, iI_b, iI_v, jI_v, ↓reduceIte, ite_true, ite_false, Int.reduceEq, Int.reduceLT, Int.reduceLE, Int.reduceAdd, Int.reduceSub, Int.reduceMul, Int.reduceNeg, not_true_eq_false, not_false_eq_true, q, ht, ez, eb, hd]
theorem kd_3 (hF : F = am_F T0 g) (hg : GG g) {s t : Int} (s0 : 0 ≤ s) (s1 : s ≤ 5) (t0 : 0 ≤ t) (t1 : t ≤ 3) : F 8 4 [.int (iI s), .int (iI 3), .int (iI t)] [] M = some (some (.int (iI (bI (und 3 s)))), M) := by
  refine s_City_isOfKind_4 hF hg ?_
  have eb : am_bro 3 = iI (1) := rfl
  have ez : (iI 3).toNatClampNeg = 3 := rfl
  have ht : ¬ 6 ≤ t := by omega
  by_cases q : 3 = s
  · rw [bI_t (show und 3 s from Or.inr (Or.inl q))]
    simp (config := { maxSteps := 1000000 }) (disch := (first | omega | decide | assumption)) only [ltm_s, ok_n, rd_i, rd_j, fd_i, fd_j, wr_i, wr_j, fw_i, fw_j, ci_s, cj_s, cv_s, dv_n, dw_n, rt_1, rt_b, rt_20, rt_21, okb_0, okb_1, okb_b, nar_0, nar_1, nar_b, i_0, i_1, j_0, j_1, i_lit, j_lit, i_n, iI_add, iI_sub, iI_mul, iI_neg, jI_add, jI_sub, jI_mul, jI_neg, sh_1, an_1, xo_1, di_p, dj_p, i_64A, i_64, j_32, lq_ge, lq_lt, lq_le, lq_gt, lq_eq, i_lt, i_le, i_eq, j_eq, iI_A, jI_J, iI_b, iI_v, jI_v, ↓reduceIte, ite_true, ite_false, Int.reduceEq, Int.reduceLT, Int.reduceLE, Int.reduceAdd, Int.reduceSub, Int.reduceMul, Int.reduceNeg, not_true_eq_false, not_false_eq_true, ht, eq_true q]
  · have hd := kd_1 hF hg (M := M) (s := s) (t := t + 1) s0 s1 (by omega) (by omega)
    rw [bI_cg (show und 1 s ↔ und 3 s by unfold und; omega)] at hd
    simp (config := { maxSteps := 1000000 }) (disch := (first | omega | decide | assumption)) only [ltm_s, ok_n, rd_i, rd_j, fd_i, fd_j, wr_i, wr_j, fw_i, fw_j, ci_s, cj_s, cv_s, dv_n, dw_n, rt_1, rt_b, rt_20, rt_21, okb_0, okb_1, okb_b, nar_0, nar_1, nar_b, i_0, i_1, j_0, j_1, i_lit, j_lit, i_n, iI_add, iI_sub, iI_mul, iI_neg, jI_add, jI_sub, jI_mul, jI_neg, sh_1, an_1, xo_1, di_p, dj_p, i_64A, i_64, j_32, lq_ge, lq_lt, lq_le, lq_gt, lq_eq, i_lt, i_le, i_eq, j_eq, iI_A, jI_J, iI_b, iI_v, jI_v, ↓reduceIte, ite_true, ite_false, Int.reduceEq, Int.reduceLT, Int.reduceLE, Int.reduceAdd, Int.reduceSub, Int.reduceMul, Int.reduceNeg, not_true_eq_false, not_false_eq_true, q, ht, ez, eb, hd]
theorem kd_4 (hF : F = am_F T0 g) (hg : GG g) {s t : Int} (s0 : 0 ≤ s) (s1 : s ≤ 5) (t0 : 0 ≤ t) (t1 : t ≤ 3) : F 8 4 [.int (iI s), .int (iI 4), .int (iI t)] [] M = some (some (.int (iI (bI (und 4 s)))), M) := by
  refine s_City_isOfKind_4 hF hg ?_
  have eb : am_bro 4 = iI (2) := rfl
  have ez : (iI 4).toNatClampNeg = 4 := rfl
  have ht : ¬ 6 ≤ t := by omega
  by_cases q : 4 = s
  · rw [bI_t (show und 4 s from Or.inr (Or.inl q))]
    simp (config := { maxSteps := 1000000 }) (disch := (first | omega | decide | assumption)) only [ltm_s, ok_n, rd_i, rd_j, fd_i, fd_j, wr_i, wr_j, fw_i, fw_j, ci_s, cj_s, cv_s, dv_n, dw_n, rt_1, rt_b, rt_20, rt_21, okb_0, okb_1, okb_b, nar_0, nar_1, nar_b, i_0, i_1, j_0, j_1, i_lit, j_lit, i_n, iI_add, iI_sub, iI_mul, iI_neg, jI_add, jI_sub, jI_mul, jI_neg, sh_1, an_1, xo_1, di_p, dj_p, i_64A, i_64, j_32, lq_ge, lq_lt, lq_le, lq_gt, lq_eq, i_lt, i_le, i_eq, j_eq, iI_A, jI_J, iI_b, iI_v, jI_v, ↓reduceIte, ite_true, ite_false, Int.reduceEq, Int.reduceLT, Int.reduceLE, Int.reduceAdd, Int.reduceSub, Int.reduceMul, Int.reduceNeg, not_true_eq_false, not_false_eq_true, ht, eq_true q]
  · have hd := kd_2 hF hg (M := M) (s := s) (t := t + 1) s0 s1 (by omega) (by omega)
    rw [bI_cg (show und 2 s ↔ und 4 s by unfold und; omega)] at hd
    simp (config := { maxSteps := 1000000 }) (disch := (first | omega | decide | assumption)) only [ltm_s, ok_n, rd_i, rd_j, fd_i, fd_j, wr_i, wr_j, fw_i, fw_j, ci_s, cj_s, cv_s, dv_n, dw_n, rt_1, rt_b, rt_20, rt_21, okb_0, okb_1, okb_b, nar_0, nar_1, nar_b, i_0, i_1, j_0, j_1, i_lit, j_lit, i_n, iI_add, iI_sub, iI_mul, iI_neg, jI_add, jI_sub, jI_mul, jI_neg, sh_1, an_1, xo_1, di_p, dj_p, i_64A, i_64, j_32, lq_ge, lq_lt, lq_le, lq_gt, lq_eq, i_lt, i_le, i_eq, j_eq, iI_A, jI_J, iI_b, iI_v, jI_v, ↓reduceIte, ite_true, ite_false, Int.reduceEq, Int.reduceLT, Int.reduceLE, Int.reduceAdd, Int.reduceSub, Int.reduceMul, Int.reduceNeg, not_true_eq_false, not_false_eq_true, q, ht, ez, eb, hd]
theorem kd_5 (hF : F = am_F T0 g) (hg : GG g) {s t : Int} (s0 : 0 ≤ s) (s1 : s ≤ 5) (t0 : 0 ≤ t) (t1 : t ≤ 2) : F 8 4 [.int (iI s), .int (iI 5), .int (iI t)] [] M = some (some (.int (iI (bI (und 5 s)))), M) := by
  refine s_City_isOfKind_4 hF hg ?_
  have eb : am_bro 5 = iI (4) := rfl
  have ez : (iI 5).toNatClampNeg = 5 := rfl
  have ht : ¬ 6 ≤ t := by omega
  by_cases q : 5 = s
  · rw [bI_t (show und 5 s from Or.inr (Or.inl q))]
    simp (config := { maxSteps := 1000000 }) (disch := (first | omega | decide | assumption)) only [ltm_s, ok_n, rd_i, rd_j, fd_i, fd_j, wr_i, wr_j, fw_i, fw_j, ci_s, cj_s, cv_s, dv_n, dw_n, rt_1, rt_b, rt_20, rt_21, okb_0, okb_1, okb_b, nar_0, nar_1, nar_b, i_0, i_1, j_0, j_1, i_lit, j_lit, i_n, iI_add, iI_sub, iI_mul, iI_neg, jI_add, jI_sub, jI_mul, jI_neg, sh_1, an_1, xo_1, di_p, dj_p, i_64A, i_64, j_32, lq_ge, lq_lt, lq_le, lq_gt, lq_eq, i_lt, i_le, i_eq, j_eq, iI_A, jI_J, iI_b, iI_v, jI_v, ↓reduceIte, ite_true, ite_false, Int.reduceEq, Int.reduceLT, Int.reduceLE, Int.reduceAdd, Int.reduceSub, Int.reduceMul, Int.reduceNeg, not_true_eq_false, not_false_eq_true, ht, eq_true q]
  · have hd := kd_4 hF hg (M := M) (s := s) (t := t + 1) s0 s1 (by omega) (by omega)
    rw [bI_cg (show und 4 s ↔ und 5 s by unfold und; omega)] at hd
    simp (config := { maxSteps := 1000000 }) (disch := (first | omega | decide | assumption)) only [ltm_s, ok_n, rd_i, rd_j, fd_i, fd_j, wr_i, wr_j, fw_i, fw_j, ci_s, cj_s, cv_s, dv_n, dw_n, rt_1, rt_b, rt_20, rt_21, okb_0, okb_1, okb_b, nar_0, nar_1, nar_b, i_0, i_1, j_0, j_1, i_lit, j_lit, i_n, iI_add, iI_sub, iI_mul, iI_neg, jI_add, jI_sub, jI_mul, jI_neg, sh_1, an_1, xo_1, di_p, dj_p, i_64A, i_64, j_32, lq_ge, lq_lt, lq_le, lq_gt, lq_eq, i_lt, i_le, i_eq, j_eq, iI_A, jI_J, iI_b, iI_v, jI_v, ↓reduceIte, ite_true, ite_false, Int.reduceEq, Int.reduceLT, Int.reduceLE, Int.reduceAdd, Int.reduceSub, Int.reduceMul, Int.reduceNeg, not_true_eq_false, not_false_eq_true, q, ht, ez, eb, hd]
theorem c_isOfKind (hF : F = am_F T0 g) (hg : GG g) {k s : Int} (k0 : 0 ≤ k) (k1 : k ≤ 5) (s0 : 0 ≤ s) (s1 : s ≤ 5) : F 8 0 [.int (iI k), .int (iI s)] [] M = some (some (.int (iI (bI (und k s)))), M) := by
  refine s_City_isOfKind hF hg ?_
  have hk : k = 0 ∨ k = 1 ∨ k = 2 ∨ k = 3 ∨ k = 4 ∨ k = 5 := by omega
  rcases hk with rfl | rfl | rfl | rfl | rfl | rfl
  · exact kd_0 hF hg (t := 0) s0 s1 (by omega) (by omega)
  · exact kd_1 hF hg (t := 0) s0 s1 (by omega) (by omega)
  · exact kd_2 hF hg (t := 0) s0 s1 (by omega) (by omega)
  · exact kd_3 hF hg (t := 0) s0 s1 (by omega) (by omega)
  · exact kd_4 hF hg (t := 0) s0 s1 (by omega) (by omega)
  · exact kd_5 hF hg (t := 0) s0 s1 (by omega) (by omega)
theorem m_isUnder (hF : F = am_F T0 g) (hg : GG g) {k s : Int} (k0 : 0 ≤ k) (k1 : k ≤ 5) (s0 : 0 ≤ s) (s1 : s ≤ 5) : F 58 0 [.int (iI k), .int (iI s)] [] M = some (some (.int (iI (bI (und k s)))), M) := by
  refine s_Model_isUnder hF hg ?_
  have hs : s = 0 ∨ s = 1 ∨ s = 2 ∨ s = 3 ∨ s = 4 ∨ s = 5 := by omega
  rcases hs with rfl | rfl | rfl | rfl | rfl | rfl
  · rw [bI_t (show und k 0 from Or.inl rfl)]
    simp (config := { maxSteps := 1000000 }) (disch := (first | omega | decide | assumption)) only [ltm_s, ok_n, rd_i, rd_j, fd_i, fd_j, wr_i, wr_j, fw_i, fw_j, ci_s, cj_s, cv_s, dv_n, dw_n, rt_1, rt_b, rt_20, rt_21, okb_0, okb_1, okb_b, nar_0, nar_1, nar_b, i_0, i_1, j_0, j_1, i_lit, j_lit, i_n, iI_add, iI_sub, iI_mul, iI_neg, jI_add, jI_sub, jI_mul, jI_neg, sh_1, an_1, xo_1, di_p, dj_p, i_64A, i_64, j_32, lq_ge, lq_lt, lq_le, lq_gt, lq_eq, i_lt, i_le, i_eq, j_eq, iI_A, jI_J, iI_b, iI_v, jI_v, ↓reduceIte, ite_true, ite_false, Int.reduceEq, Int.reduceLT, Int.reduceLE, Int.reduceAdd, Int.reduceSub, Int.reduceMul, Int.reduceNeg, not_true_eq_false, not_false_eq_true]
  · simp (config := { maxSteps := 1000000 }) (disch := (first | omega | decide | assumption)) only [ltm_s, ok_n, rd_i, rd_j, fd_i, fd_j, wr_i, wr_j, fw_i, fw_j, ci_s, cj_s, cv_s, dv_n, dw_n, rt_1, rt_b, rt_20, rt_21, okb_0, okb_1, okb_b, nar_0, nar_1, nar_b, i_0, i_1, j_0, j_1, i_lit, j_lit, i_n, iI_add, iI_sub, iI_mul, iI_neg, jI_add, jI_sub, jI_mul, jI_neg, sh_1, an_1, xo_1, di_p, dj_p, i_64A, i_64, j_32, lq_ge, lq_lt, lq_le, lq_gt, lq_eq, i_lt, i_le, i_eq, j_eq, iI_A, jI_J, iI_b, iI_v, jI_v, ↓reduceIte, ite_true, ite_false, Int.reduceEq, Int.reduceLT, Int.reduceLE, Int.reduceAdd, Int.reduceSub, Int.reduceMul, Int.reduceNeg, not_true_eq_false, not_false_eq_true]
    (repeat' split) <;> first | rw [bI_t (show und k 1 by unfold und; omega)] | rw [bI_f (show ¬ und k 1 by unfold und; omega)]
  · simp (config := { maxSteps := 1000000 }) (disch := (first | omega | decide | assumption)) only [ltm_s, ok_n, rd_i, rd_j, fd_i, fd_j, wr_i, wr_j, fw_i, fw_j, ci_s, cj_s, cv_s, dv_n, dw_n, rt_1, rt_b, rt_20, rt_21, okb_0, okb_1, okb_b, nar_0, nar_1, nar_b, i_0, i_1, j_0, j_1, i_lit, j_lit, i_n, iI_add, iI_sub, iI_mul, iI_neg, jI_add, jI_sub, jI_mul, jI_neg, sh_1, an_1, xo_1, di_p, dj_p, i_64A, i_64, j_32, lq_ge, lq_lt, lq_le, lq_gt, lq_eq, i_lt, i_le, i_eq, j_eq, iI_A, jI_J, iI_b, iI_v, jI_v, ↓reduceIte, ite_true, ite_false, Int.reduceEq, Int.reduceLT, Int.reduceLE, Int.reduceAdd, Int.reduceSub, Int.reduceMul, Int.reduceNeg, not_true_eq_false, not_false_eq_true]
    (repeat' split) <;> first | rw [bI_t (show und k 2 by unfold und; omega)] | rw [bI_f (show ¬ und k 2 by unfold und; omega)]
  · simp (config := { maxSteps := 1000000 }) (disch := (first | omega | decide | assumption)) only [ltm_s, ok_n, rd_i, rd_j, fd_i, fd_j, wr_i, wr_j, fw_i, fw_j, ci_s, cj_s, cv_s, dv_n, dw_n, rt_1, rt_b, rt_20, rt_21, okb_0, okb_1, okb_b, nar_0, nar_1, nar_b, i_0, i_1, j_0, j_1, i_lit, j_lit, i_n, iI_add, iI_sub, iI_mul, iI_neg, jI_add, jI_sub, jI_mul, jI_neg, sh_1, an_1, xo_1, di_p, dj_p, i_64A, i_64, j_32, lq_ge, lq_lt, lq_le, lq_gt, lq_eq, i_lt, i_le, i_eq, j_eq, iI_A, jI_J, iI_b, iI_v, jI_v, ↓reduceIte, ite_true, ite_false, Int.reduceEq, Int.reduceLT, Int.reduceLE, Int.reduceAdd, Int.reduceSub, Int.reduceMul, Int.reduceNeg, not_true_eq_false, not_false_eq_true]
    (repeat' split) <;> first | rw [bI_t (show und k 3 by unfold und; omega)] | rw [bI_f (show ¬ und k 3 by unfold und; omega)]
  · simp (config := { maxSteps := 1000000 }) (disch := (first | omega | decide | assumption)) only [ltm_s, ok_n, rd_i, rd_j, fd_i, fd_j, wr_i, wr_j, fw_i, fw_j, ci_s, cj_s, cv_s, dv_n, dw_n, rt_1, rt_b, rt_20, rt_21, okb_0, okb_1, okb_b, nar_0, nar_1, nar_b, i_0, i_1, j_0, j_1, i_lit, j_lit, i_n, iI_add, iI_sub, iI_mul, iI_neg, jI_add, jI_sub, jI_mul, jI_neg, sh_1, an_1, xo_1, di_p, dj_p, i_64A, i_64, j_32, lq_ge, lq_lt, lq_le, lq_gt, lq_eq, i_lt, i_le, i_eq, j_eq, iI_A, jI_J, iI_b, iI_v, jI_v, ↓reduceIte, ite_true, ite_false, Int.reduceEq, Int.reduceLT, Int.reduceLE, Int.reduceAdd, Int.reduceSub, Int.reduceMul, Int.reduceNeg, not_true_eq_false, not_false_eq_true]
    (repeat' split) <;> first | rw [bI_t (show und k 4 by unfold und; omega)] | rw [bI_f (show ¬ und k 4 by unfold und; omega)]
  · simp (config := { maxSteps := 1000000 }) (disch := (first | omega | decide | assumption)) only [ltm_s, ok_n, rd_i, rd_j, fd_i, fd_j, wr_i, wr_j, fw_i, fw_j, ci_s, cj_s, cv_s, dv_n, dw_n, rt_1, rt_b, rt_20, rt_21, okb_0, okb_1, okb_b, nar_0, nar_1, nar_b, i_0, i_1, j_0, j_1, i_lit, j_lit, i_n, iI_add, iI_sub, iI_mul, iI_neg, jI_add, jI_sub, jI_mul, jI_neg, sh_1, an_1, xo_1, di_p, dj_p, i_64A, i_64, j_32, lq_ge, lq_lt, lq_le, lq_gt, lq_eq, i_lt, i_le, i_eq, j_eq, iI_A, jI_J, iI_b, iI_v, jI_v, ↓reduceIte, ite_true, ite_false, Int.reduceEq, Int.reduceLT, Int.reduceLE, Int.reduceAdd, Int.reduceSub, Int.reduceMul, Int.reduceNeg, not_true_eq_false, not_false_eq_true]
    (repeat' split) <;> first | rw [bI_t (show und k 5 by unfold und; omega)] | rw [bI_f (show ¬ und k 5 by unfold und; omega)]
end An
